theorem eX12_next_215 : decode cX12_next 215 = .ok (.invokevirtual 107, 3) ∧ decode cX12_next 218 = .ok (.invokestatic 126, 3) ∧ decode cX12_next 221 = .ok (.ifCond .eq 52, 3) ∧ decode cX12_next 224 = .ok (.aload_n 0, 1) ∧ decode cX12_next 225 = .ok (.getfield 101, 3) ∧ decode cX12_next 228 = .ok (.aload_n 0, 1) ∧ decode cX12_next 229 = .ok (.getfield 104, 3) ∧ decode cX12_next 232 = .ok (.isub, 1) ∧ True := dkl_ok (c := cX12_next) [(.invokevirtual 107, 3), (.invokestatic 126, 3), (.ifCond .eq 52, 3), (.aload_n 0, 1), (.getfield 101, 3), (.aload_n 0, 1), (.getfield 104, 3), (.isub, 1)] 215 (by decide +kernel)
theorem dX12_next_215 : decode cX12_next 215 = .ok (.invokevirtual 107, 3) := eX12_next_215.1
theorem dX12_next_218 : decode cX12_next 218 = .ok (.invokestatic 126, 3) := eX12_next_215.2.1
theorem dX12_next_221 : decode cX12_next 221 = .ok (.ifCond .eq 52, 3) := eX12_next_215.2.2.1
theorem dX12_next_224 : decode cX12_next 224 = .ok (.aload_n 0, 1) := eX12_next_215.2.2.2.1
theorem dX12_next_225 : decode cX12_next 225 = .ok (.getfield 101, 3) := eX12_next_215.2.2.2.2.1
theorem dX12_next_228 : decode cX12_next 228 = .ok (.aload_n 0, 1) := eX12_next_215.2.2.2.2.2.1
theorem dX12_next_229 : decode cX12_next 229 = .ok (.getfield 104, 3) := eX12_next_215.2.2.2.2.2.2.1
theorem dX12_next_232 : decode cX12_next 232 = .ok (.isub, 1) := eX12_next_215.2.2.2.2.2.2.2.1
theorem eX12_next_233 : decode cX12_next 233 = .ok (.iconst 4, 1) ∧ decode cX12_next 234 = .ok (.if_icmp .ge 26, 3) ∧ decode cX12_next 237 = .ok (.aload_n 0, 1) ∧ decode cX12_next 238 = .ok (.bipush 10, 2) ∧ decode cX12_next 240 = .ok (.aload_n 0, 1) ∧ decode cX12_next 241 = .ok (.getfield 129, 3) ∧ decode cX12_next 244 = .ok (.imul, 1) ∧ decode cX12_next 245 = .ok (.aload_n 0, 1) ∧ True := dkl_ok (c := cX12_next) [(.iconst 4, 1), (.if_icmp .ge 26, 3), (.aload_n 0, 1), (.bipush 10, 2), (.aload_n 0, 1), (.getfield 129, 3), (.imul, 1), (.aload_n 0, 1)] 233 (by decide +kernel)
theorem dX12_next_233 : decode cX12_next 233 = .ok (.iconst 4, 1) := eX12_next_233.1
theorem dX12_next_234 : decode cX12_next 234 = .ok (.if_icmp .ge 26, 3) := eX12_next_233.2.1
theorem dX12_next_237 : decode cX12_next 237 = .ok (.aload_n 0, 1) := eX12_next_233.2.2.1
theorem dX12_next_238 : decode cX12_next 238 = .ok (.bipush 10, 2) := eX12_next_233.2.2.2.1
theorem dX12_next_240 : decode cX12_next 240 = .ok (.aload_n 0, 1) := eX12_next_233.2.2.2.2.1
theorem dX12_next_241 : decode cX12_next 241 = .ok (.getfield 129, 3) := eX12_next_233.2.2.2.2.2.1
theorem dX12_next_244 : decode cX12_next 244 = .ok (.imul, 1) := eX12_next_233.2.2.2.2.2.2.1
theorem dX12_next_245 : decode cX12_next 245 = .ok (.aload_n 0, 1) := eX12_next_233.2.2.2.2.2.2.2.1
theorem eX12_next_246 : decode cX12_next 246 = .ok (.aload_n 0, 1) ∧ decode cX12_next 247 = .ok (.getfield 101, 3) ∧ decode cX12_next 250 = .ok (.invokevirtual 107, 3) ∧ decode cX12_next 253 = .ok (.iadd, 1) ∧ decode cX12_next 254 = .ok (.bipush 48, 2) ∧ decode cX12_next 256 = .ok (.isub, 1) ∧ decode cX12_next 257 = .ok (.putfield 129, 3) ∧ decode cX12_next 260 = .ok (.aload_n 0, 1) ∧ True := dkl_ok (c := cX12_next) [(.aload_n 0, 1), (.getfield 101, 3), (.invokevirtual 107, 3), (.iadd, 1), (.bipush 48, 2), (.isub, 1), (.putfield 129, 3), (.aload_n 0, 1)] 246 (by decide +kernel)
theorem dX12_next_246 : decode cX12_next 246 = .ok (.aload_n 0, 1) := eX12_next_246.1
theorem dX12_next_247 : decode cX12_next 247 = .ok (.getfield 101, 3) := eX12_next_246.2.1
theorem dX12_next_250 : decode cX12_next 250 = .ok (.invokevirtual 107, 3) := eX12_next_246.2.2.1
theorem dX12_next_253 : decode cX12_next 253 = .ok (.iadd, 1) := eX12_next_246.2.2.2.1
theorem dX12_next_254 : decode cX12_next 254 = .ok (.bipush 48, 2) := eX12_next_246.2.2.2.2.1
theorem dX12_next_256 : decode cX12_next 256 = .ok (.isub, 1) := eX12_next_246.2.2.2.2.2.1
theorem dX12_next_257 : decode cX12_next 257 = .ok (.putfield 129, 3) := eX12_next_246.2.2.2.2.2.2.1
theorem dX12_next_260 : decode cX12_next 260 = .ok (.aload_n 0, 1) := eX12_next_246.2.2.2.2.2.2.2.1
theorem eX12_next_261 : decode cX12_next 261 = .ok (.dup, 1) ∧ decode cX12_next 262 = .ok (.getfield 101, 3) ∧ decode cX12_next 265 = .ok (.iconst 1, 1) ∧ decode cX12_next 266 = .ok (.iadd, 1) ∧ decode cX12_next 267 = .ok (.putfield 101, 3) ∧ decode cX12_next 270 = .ok (.goto (-60), 3) ∧ decode cX12_next 273 = .ok (.aload_n 0, 1) ∧ decode cX12_next 274 = .ok (.aload_n 0, 1) ∧ True := dkl_ok (c := cX12_next) [(.dup, 1), (.getfield 101, 3), (.iconst 1, 1), (.iadd, 1), (.putfield 101, 3), (.goto (-60), 3), (.aload_n 0, 1), (.aload_n 0, 1)] 261 (by decide +kernel)
theorem dX12_next_261 : decode cX12_next 261 = .ok (.dup, 1) := eX12_next_261.1
theorem dX12_next_262 : decode cX12_next 262 = .ok (.getfield 101, 3) := eX12_next_261.2.1
theorem dX12_next_265 : decode cX12_next 265 = .ok (.iconst 1, 1) := eX12_next_261.2.2.1
theorem dX12_next_266 : decode cX12_next 266 = .ok (.iadd, 1) := eX12_next_261.2.2.2.1
theorem dX12_next_267 : decode cX12_next 267 = .ok (.putfield 101, 3) := eX12_next_261.2.2.2.2.1
theorem dX12_next_270 : decode cX12_next 270 = .ok (.goto (-60), 3) := eX12_next_261.2.2.2.2.2.1
theorem dX12_next_273 : decode cX12_next 273 = .ok (.aload_n 0, 1) := eX12_next_261.2.2.2.2.2.2.1
theorem dX12_next_274 : decode cX12_next 274 = .ok (.aload_n 0, 1) := eX12_next_261.2.2.2.2.2.2.2.1
theorem eX12_next_275 : decode cX12_next 275 = .ok (.getfield 101, 3) ∧ decode cX12_next 278 = .ok (.aload_n 0, 1) ∧ decode cX12_next 279 = .ok (.getfield 104, 3) ∧ decode cX12_next 282 = .ok (.isub, 1) ∧ decode cX12_next 283 = .ok (.iconst 4, 1) ∧ decode cX12_next 284 = .ok (.if_icmp .le 7, 3) ∧ decode cX12_next 287 = .ok (.iconst 4, 1) ∧ decode cX12_next 288 = .ok (.goto 4, 3) ∧ True := dkl_ok (c := cX12_next) [(.getfield 101, 3), (.aload_n 0, 1), (.getfield 104, 3), (.isub, 1), (.iconst 4, 1), (.if_icmp .le 7, 3), (.iconst 4, 1), (.goto 4, 3)] 275 (by decide +kernel)
theorem dX12_next_275 : decode cX12_next 275 = .ok (.getfield 101, 3) := eX12_next_275.1
theorem dX12_next_278 : decode cX12_next 278 = .ok (.aload_n 0, 1) := eX12_next_275.2.1
theorem dX12_next_279 : decode cX12_next 279 = .ok (.getfield 104, 3) := eX12_next_275.2.2.1
theorem dX12_next_282 : decode cX12_next 282 = .ok (.isub, 1) := eX12_next_275.2.2.2.1
theorem dX12_next_283 : decode cX12_next 283 = .ok (.iconst 4, 1) := eX12_next_275.2.2.2.2.1
theorem dX12_next_284 : decode cX12_next 284 = .ok (.if_icmp .le 7, 3) := eX12_next_275.2.2.2.2.2.1
theorem dX12_next_287 : decode cX12_next 287 = .ok (.iconst 4, 1) := eX12_next_275.2.2.2.2.2.2.1
theorem dX12_next_288 : decode cX12_next 288 = .ok (.goto 4, 3) := eX12_next_275.2.2.2.2.2.2.2.1
theorem eX12_next_291 : decode cX12_next 291 = .ok (.iconst 2, 1) ∧ decode cX12_next 292 = .ok (.putfield 110, 3) ∧ decode cX12_next 295 = .ok (.goto 35, 3) ∧ decode cX12_next 298 = .ok (.aload_n 0, 1) ∧ decode cX12_next 299 = .ok (.aload_n 0, 1) ∧ decode cX12_next 300 = .ok (.getfield 104, 3) ∧ decode cX12_next 303 = .ok (.iconst 1, 1) ∧ decode cX12_next 304 = .ok (.iadd, 1) ∧ True := dkl_ok (c := cX12_next) [(.iconst 2, 1), (.putfield 110, 3), (.goto 35, 3), (.aload_n 0, 1), (.aload_n 0, 1), (.getfield 104, 3), (.iconst 1, 1), (.iadd, 1)] 291 (by decide +kernel)
theorem dX12_next_291 : decode cX12_next 291 = .ok (.iconst 2, 1) := eX12_next_291.1
theorem dX12_next_292 : decode cX12_next 292 = .ok (.putfield 110, 3) := eX12_next_291.2.1
theorem dX12_next_295 : decode cX12_next 295 = .ok (.goto 35, 3) := eX12_next_291.2.2.1
theorem dX12_next_298 : decode cX12_next 298 = .ok (.aload_n 0, 1) := eX12_next_291.2.2.2.1
theorem dX12_next_299 : decode cX12_next 299 = .ok (.aload_n 0, 1) := eX12_next_291.2.2.2.2.1
theorem dX12_next_300 : decode cX12_next 300 = .ok (.getfield 104, 3) := eX12_next_291.2.2.2.2.2.1
theorem dX12_next_303 : decode cX12_next 303 = .ok (.iconst 1, 1) := eX12_next_291.2.2.2.2.2.2.1
theorem dX12_next_304 : decode cX12_next 304 = .ok (.iadd, 1) := eX12_next_291.2.2.2.2.2.2.2.1
theorem eX12_next_305 : decode cX12_next 305 = .ok (.putfield 101, 3) ∧ decode cX12_next 308 = .ok (.aload_n 0, 1) ∧ decode cX12_next 309 = .ok (.iload_n 1, 1) ∧ decode cX12_next 310 = .ok (.putfield 129, 3) ∧ decode cX12_next 313 = .ok (.aload_n 0, 1) ∧ decode cX12_next 314 = .ok (.aload_n 0, 1) ∧ decode cX12_next 315 = .ok (.iload_n 1, 1) ∧ decode cX12_next 316 = .ok (.invokevirtual 132, 3) ∧ True := dkl_ok (c := cX12_next) [(.putfield 101, 3), (.aload_n 0, 1), (.iload_n 1, 1), (.putfield 129, 3), (.aload_n 0, 1), (.aload_n 0, 1), (.iload_n 1, 1), (.invokevirtual 132, 3)] 305 (by decide +kernel)
theorem dX12_next_305 : decode cX12_next 305 = .ok (.putfield 101, 3) := eX12_next_305.1
theorem dX12_next_308 : decode cX12_next 308 = .ok (.aload_n 0, 1) := eX12_next_305.2.1
theorem dX12_next_309 : decode cX12_next 309 = .ok (.iload_n 1, 1) := eX12_next_305.2.2.1
theorem dX12_next_310 : decode cX12_next 310 = .ok (.putfield 129, 3) := eX12_next_305.2.2.2.1
theorem dX12_next_313 : decode cX12_next 313 = .ok (.aload_n 0, 1) := eX12_next_305.2.2.2.2.1
theorem dX12_next_314 : decode cX12_next 314 = .ok (.aload_n 0, 1) := eX12_next_305.2.2.2.2.2.1
theorem dX12_next_315 : decode cX12_next 315 = .ok (.iload_n 1, 1) := eX12_next_305.2.2.2.2.2.2.1
theorem dX12_next_316 : decode cX12_next 316 = .ok (.invokevirtual 132, 3) := eX12_next_305.2.2.2.2.2.2.2.1
theorem eX12_next_319 : decode cX12_next 319 = .ok (.ifCond .eq 7, 3) ∧ decode cX12_next 322 = .ok (.iconst 3, 1) ∧ decode cX12_next 323 = .ok (.goto 4, 3) ∧ decode cX12_next 326 = .ok (.iconst 4, 1) ∧ decode cX12_next 327 = .ok (.putfield 110, 3) ∧ decode cX12_next 330 = .ok (.return_, 1) ∧ True := dkl_ok (c := cX12_next) [(.ifCond .eq 7, 3), (.iconst 3, 1), (.goto 4, 3), (.iconst 4, 1), (.putfield 110, 3), (.return_, 1)] 319 (by decide +kernel)
theorem dX12_next_319 : decode cX12_next 319 = .ok (.ifCond .eq 7, 3) := eX12_next_319.1
theorem dX12_next_322 : decode cX12_next 322 = .ok (.iconst 3, 1) := eX12_next_319.2.1
theorem dX12_next_323 : decode cX12_next 323 = .ok (.goto 4, 3) := eX12_next_319.2.2.1
theorem dX12_next_326 : decode cX12_next 326 = .ok (.iconst 4, 1) := eX12_next_319.2.2.2.1
theorem dX12_next_327 : decode cX12_next 327 = .ok (.putfield 110, 3) := eX12_next_319.2.2.2.2.1
theorem dX12_next_330 : decode cX12_next 330 = .ok (.return_, 1) := eX12_next_319.2.2.2.2.2.1
theorem eX12_isSign_0 : decode cX12_isSign 0 = .ok (.aload_n 0, 1) ∧ decode cX12_isSign 1 = .ok (.getfield 110, 3) ∧ decode cX12_isSign 4 = .ok (.iconst 3, 1) ∧ decode cX12_isSign 5 = .ok (.if_icmp .ne 15, 3) ∧ decode cX12_isSign 8 = .ok (.aload_n 0, 1) ∧ decode cX12_isSign 9 = .ok (.getfield 129, 3) ∧ decode cX12_isSign 12 = .ok (.iload_n 1, 1) ∧ decode cX12_isSign 13 = .ok (.if_icmp .ne 7, 3) ∧ True := dkl_ok (c := cX12_isSign) [(.aload_n 0, 1), (.getfield 110, 3), (.iconst 3, 1), (.if_icmp .ne 15, 3), (.aload_n 0, 1), (.getfield 129, 3), (.iload_n 1, 1), (.if_icmp .ne 7, 3)] 0 (by decide +kernel)
theorem dX12_isSign_0 : decode cX12_isSign 0 = .ok (.aload_n 0, 1) := eX12_isSign_0.1
theorem dX12_isSign_1 : decode cX12_isSign 1 = .ok (.getfield 110, 3) := eX12_isSign_0.2.1
theorem dX12_isSign_4 : decode cX12_isSign 4 = .ok (.iconst 3, 1) := eX12_isSign_0.2.2.1
theorem dX12_isSign_5 : decode cX12_isSign 5 = .ok (.if_icmp .ne 15, 3) := eX12_isSign_0.2.2.2.1
theorem dX12_isSign_8 : decode cX12_isSign 8 = .ok (.aload_n 0, 1) := eX12_isSign_0.2.2.2.2.1
theorem dX12_isSign_9 : decode cX12_isSign 9 = .ok (.getfield 129, 3) := eX12_isSign_0.2.2.2.2.2.1
theorem dX12_isSign_12 : decode cX12_isSign 12 = .ok (.iload_n 1, 1) := eX12_isSign_0.2.2.2.2.2.2.1
theorem dX12_isSign_13 : decode cX12_isSign 13 = .ok (.if_icmp .ne 7, 3) := eX12_isSign_0.2.2.2.2.2.2.2.1
theorem eX12_isSign_16 : decode cX12_isSign 16 = .ok (.iconst 1, 1) ∧ decode cX12_isSign 17 = .ok (.goto 4, 3) ∧ decode cX12_isSign 20 = .ok (.iconst 0, 1) ∧ decode cX12_isSign 21 = .ok (.ireturn, 1) ∧ True := dkl_ok (c := cX12_isSign) [(.iconst 1, 1), (.goto 4, 3), (.iconst 0, 1), (.ireturn, 1)] 16 (by decide +kernel)
theorem dX12_isSign_16 : decode cX12_isSign 16 = .ok (.iconst 1, 1) := eX12_isSign_16.1
theorem dX12_isSign_17 : decode cX12_isSign 17 = .ok (.goto 4, 3) := eX12_isSign_16.2.1
theorem dX12_isSign_20 : decode cX12_isSign 20 = .ok (.iconst 0, 1) := eX12_isSign_16.2.2.1
theorem dX12_isSign_21 : decode cX12_isSign 21 = .ok (.ireturn, 1) := eX12_isSign_16.2.2.2.1
theorem eX12_spelled_0 : decode cX12_spelled 0 = .ok (.iload_n 0, 1) ∧ decode cX12_spelled 1 = .ok (.i2l, 1) ∧ decode cX12_spelled 2 = .ok (.ldc2_w 121, 3) ∧ decode cX12_spelled 5 = .ok (.lsub, 1) ∧ decode cX12_spelled 6 = .ok (.ldc2_w 119, 3) ∧ decode cX12_spelled 9 = .ok (.lmul, 1) ∧ decode cX12_spelled 10 = .ok (.iload_n 1, 1) ∧ decode cX12_spelled 11 = .ok (.i2l, 1) ∧ True := dkl_ok (c := cX12_spelled) [(.iload_n 0, 1), (.i2l, 1), (.ldc2_w 121, 3), (.lsub, 1), (.ldc2_w 119, 3), (.lmul, 1), (.iload_n 1, 1), (.i2l, 1)] 0 (by decide +kernel)
theorem dX12_spelled_0 : decode cX12_spelled 0 = .ok (.iload_n 0, 1) := eX12_spelled_0.1
theorem dX12_spelled_1 : decode cX12_spelled 1 = .ok (.i2l, 1) := eX12_spelled_0.2.1
theorem dX12_spelled_2 : decode cX12_spelled 2 = .ok (.ldc2_w 121, 3) := eX12_spelled_0.2.2.1
theorem dX12_spelled_5 : decode cX12_spelled 5 = .ok (.lsub, 1) := eX12_spelled_0.2.2.2.1
theorem dX12_spelled_6 : decode cX12_spelled 6 = .ok (.ldc2_w 119, 3) := eX12_spelled_0.2.2.2.2.1
theorem dX12_spelled_9 : decode cX12_spelled 9 = .ok (.lmul, 1) := eX12_spelled_0.2.2.2.2.2.1
theorem dX12_spelled_10 : decode cX12_spelled 10 = .ok (.iload_n 1, 1) := eX12_spelled_0.2.2.2.2.2.2.1
theorem dX12_spelled_11 : decode cX12_spelled 11 = .ok (.i2l, 1) := eX12_spelled_0.2.2.2.2.2.2.2.1
theorem eX12_spelled_12 : decode cX12_spelled 12 = .ok (.ladd, 1) ∧ decode cX12_spelled 13 = .ok (.ldc2_w 121, 3) ∧ decode cX12_spelled 16 = .ok (.lsub, 1) ∧ decode cX12_spelled 17 = .ok (.lstore 6, 2) ∧ decode cX12_spelled 19 = .ok (.iload_n 2, 1) ∧ decode cX12_spelled 20 = .ok (.ifCond .le 19, 3) ∧ decode cX12_spelled 23 = .ok (.lload 6, 2) ∧ decode cX12_spelled 25 = .ok (.ldc2_w 119, 3) ∧ True := dkl_ok (c := cX12_spelled) [(.ladd, 1), (.ldc2_w 121, 3), (.lsub, 1), (.lstore 6, 2), (.iload_n 2, 1), (.ifCond .le 19, 3), (.lload 6, 2), (.ldc2_w 119, 3)] 12 (by decide +kernel)
theorem dX12_spelled_12 : decode cX12_spelled 12 = .ok (.ladd, 1) := eX12_spelled_12.1
theorem dX12_spelled_13 : decode cX12_spelled 13 = .ok (.ldc2_w 121, 3) := eX12_spelled_12.2.1
theorem dX12_spelled_16 : decode cX12_spelled 16 = .ok (.lsub, 1) := eX12_spelled_12.2.2.1
theorem dX12_spelled_17 : decode cX12_spelled 17 = .ok (.lstore 6, 2) := eX12_spelled_12.2.2.2.1
theorem dX12_spelled_19 : decode cX12_spelled 19 = .ok (.iload_n 2, 1) := eX12_spelled_12.2.2.2.2.1
theorem dX12_spelled_20 : decode cX12_spelled 20 = .ok (.ifCond .le 19, 3) := eX12_spelled_12.2.2.2.2.2.1
theorem dX12_spelled_23 : decode cX12_spelled 23 = .ok (.lload 6, 2) := eX12_spelled_12.2.2.2.2.2.2.1
theorem dX12_spelled_25 : decode cX12_spelled 25 = .ok (.ldc2_w 119, 3) := eX12_spelled_12.2.2.2.2.2.2.2.1
theorem eX12_spelled_28 : decode cX12_spelled 28 = .ok (.lmul, 1) ∧ decode cX12_spelled 29 = .ok (.iload_n 2, 1) ∧ decode cX12_spelled 30 = .ok (.i2l, 1) ∧ decode cX12_spelled 31 = .ok (.ladd, 1) ∧ decode cX12_spelled 32 = .ok (.ldc2_w 121, 3) ∧ decode cX12_spelled 35 = .ok (.lsub, 1) ∧ decode cX12_spelled 36 = .ok (.goto 5, 3) ∧ decode cX12_spelled 39 = .ok (.lload 6, 2) ∧ True := dkl_ok (c := cX12_spelled) [(.lmul, 1), (.iload_n 2, 1), (.i2l, 1), (.ladd, 1), (.ldc2_w 121, 3), (.lsub, 1), (.goto 5, 3), (.lload 6, 2)] 28 (by decide +kernel)
theorem dX12_spelled_28 : decode cX12_spelled 28 = .ok (.lmul, 1) := eX12_spelled_28.1
theorem dX12_spelled_29 : decode cX12_spelled 29 = .ok (.iload_n 2, 1) := eX12_spelled_28.2.1
theorem dX12_spelled_30 : decode cX12_spelled 30 = .ok (.i2l, 1) := eX12_spelled_28.2.2.1
theorem dX12_spelled_31 : decode cX12_spelled 31 = .ok (.ladd, 1) := eX12_spelled_28.2.2.2.1
theorem dX12_spelled_32 : decode cX12_spelled 32 = .ok (.ldc2_w 121, 3) := eX12_spelled_28.2.2.2.2.1
theorem dX12_spelled_35 : decode cX12_spelled 35 = .ok (.lsub, 1) := eX12_spelled_28.2.2.2.2.2.1
theorem dX12_spelled_36 : decode cX12_spelled 36 = .ok (.goto 5, 3) := eX12_spelled_28.2.2.2.2.2.2.1
theorem dX12_spelled_39 : decode cX12_spelled 39 = .ok (.lload 6, 2) := eX12_spelled_28.2.2.2.2.2.2.2.1
theorem eX12_spelled_41 : decode cX12_spelled 41 = .ok (.lstore 6, 2) ∧ decode cX12_spelled 43 = .ok (.iload_n 3, 1) ∧ decode cX12_spelled 44 = .ok (.ifCond .le 19, 3) ∧ decode cX12_spelled 47 = .ok (.lload 6, 2) ∧ decode cX12_spelled 49 = .ok (.ldc2_w 119, 3) ∧ decode cX12_spelled 52 = .ok (.lmul, 1) ∧ decode cX12_spelled 53 = .ok (.iload_n 3, 1) ∧ decode cX12_spelled 54 = .ok (.i2l, 1) ∧ True := dkl_ok (c := cX12_spelled) [(.lstore 6, 2), (.iload_n 3, 1), (.ifCond .le 19, 3), (.lload 6, 2), (.ldc2_w 119, 3), (.lmul, 1), (.iload_n 3, 1), (.i2l, 1)] 41 (by decide +kernel)
theorem dX12_spelled_41 : decode cX12_spelled 41 = .ok (.lstore 6, 2) := eX12_spelled_41.1
theorem dX12_spelled_43 : decode cX12_spelled 43 = .ok (.iload_n 3, 1) := eX12_spelled_41.2.1
theorem dX12_spelled_44 : decode cX12_spelled 44 = .ok (.ifCond .le 19, 3) := eX12_spelled_41.2.2.1
theorem dX12_spelled_47 : decode cX12_spelled 47 = .ok (.lload 6, 2) := eX12_spelled_41.2.2.2.1
theorem dX12_spelled_49 : decode cX12_spelled 49 = .ok (.ldc2_w 119, 3) := eX12_spelled_41.2.2.2.2.1
theorem dX12_spelled_52 : decode cX12_spelled 52 = .ok (.lmul, 1) := eX12_spelled_41.2.2.2.2.2.1
theorem dX12_spelled_53 : decode cX12_spelled 53 = .ok (.iload_n 3, 1) := eX12_spelled_41.2.2.2.2.2.2.1
theorem dX12_spelled_54 : decode cX12_spelled 54 = .ok (.i2l, 1) := eX12_spelled_41.2.2.2.2.2.2.2.1
theorem eX12_spelled_55 : decode cX12_spelled 55 = .ok (.ladd, 1) ∧ decode cX12_spelled 56 = .ok (.ldc2_w 121, 3) ∧ decode cX12_spelled 59 = .ok (.lsub, 1) ∧ decode cX12_spelled 60 = .ok (.goto 5, 3) ∧ decode cX12_spelled 63 = .ok (.lload 6, 2) ∧ decode cX12_spelled 65 = .ok (.lstore 6, 2) ∧ decode cX12_spelled 67 = .ok (.iload 4, 2) ∧ decode cX12_spelled 69 = .ok (.ifCond .le 20, 3) ∧ True := dkl_ok (c := cX12_spelled) [(.ladd, 1), (.ldc2_w 121, 3), (.lsub, 1), (.goto 5, 3), (.lload 6, 2), (.lstore 6, 2), (.iload 4, 2), (.ifCond .le 20, 3)] 55 (by decide +kernel)
theorem dX12_spelled_55 : decode cX12_spelled 55 = .ok (.ladd, 1) := eX12_spelled_55.1
theorem dX12_spelled_56 : decode cX12_spelled 56 = .ok (.ldc2_w 121, 3) := eX12_spelled_55.2.1
theorem dX12_spelled_59 : decode cX12_spelled 59 = .ok (.lsub, 1) := eX12_spelled_55.2.2.1
theorem dX12_spelled_60 : decode cX12_spelled 60 = .ok (.goto 5, 3) := eX12_spelled_55.2.2.2.1
theorem dX12_spelled_63 : decode cX12_spelled 63 = .ok (.lload 6, 2) := eX12_spelled_55.2.2.2.2.1
theorem dX12_spelled_65 : decode cX12_spelled 65 = .ok (.lstore 6, 2) := eX12_spelled_55.2.2.2.2.2.1
theorem dX12_spelled_67 : decode cX12_spelled 67 = .ok (.iload 4, 2) := eX12_spelled_55.2.2.2.2.2.2.1
theorem dX12_spelled_69 : decode cX12_spelled 69 = .ok (.ifCond .le 20, 3) := eX12_spelled_55.2.2.2.2.2.2.2.1
theorem eX12_spelled_72 : decode cX12_spelled 72 = .ok (.lload 6, 2) ∧ decode cX12_spelled 74 = .ok (.ldc2_w 119, 3) ∧ decode cX12_spelled 77 = .ok (.lmul, 1) ∧ decode cX12_spelled 78 = .ok (.iload 4, 2) ∧ decode cX12_spelled 80 = .ok (.i2l, 1) ∧ decode cX12_spelled 81 = .ok (.ladd, 1) ∧ decode cX12_spelled 82 = .ok (.ldc2_w 121, 3) ∧ decode cX12_spelled 85 = .ok (.lsub, 1) ∧ True := dkl_ok (c := cX12_spelled) [(.lload 6, 2), (.ldc2_w 119, 3), (.lmul, 1), (.iload 4, 2), (.i2l, 1), (.ladd, 1), (.ldc2_w 121, 3), (.lsub, 1)] 72 (by decide +kernel)
theorem dX12_spelled_72 : decode cX12_spelled 72 = .ok (.lload 6, 2) := eX12_spelled_72.1
theorem dX12_spelled_74 : decode cX12_spelled 74 = .ok (.ldc2_w 119, 3) := eX12_spelled_72.2.1
theorem dX12_spelled_77 : decode cX12_spelled 77 = .ok (.lmul, 1) := eX12_spelled_72.2.2.1
theorem dX12_spelled_78 : decode cX12_spelled 78 = .ok (.iload 4, 2) := eX12_spelled_72.2.2.2.1
theorem dX12_spelled_80 : decode cX12_spelled 80 = .ok (.i2l, 1) := eX12_spelled_72.2.2.2.2.1
theorem dX12_spelled_81 : decode cX12_spelled 81 = .ok (.ladd, 1) := eX12_spelled_72.2.2.2.2.2.1
theorem dX12_spelled_82 : decode cX12_spelled 82 = .ok (.ldc2_w 121, 3) := eX12_spelled_72.2.2.2.2.2.2.1
theorem dX12_spelled_85 : decode cX12_spelled 85 = .ok (.lsub, 1) := eX12_spelled_72.2.2.2.2.2.2.2.1
theorem eX12_spelled_86 : decode cX12_spelled 86 = .ok (.goto 5, 3) ∧ decode cX12_spelled 89 = .ok (.lload 6, 2) ∧ decode cX12_spelled 91 = .ok (.lstore 6, 2) ∧ decode cX12_spelled 93 = .ok (.iload 5, 2) ∧ decode cX12_spelled 95 = .ok (.ifCond .le 20, 3) ∧ decode cX12_spelled 98 = .ok (.lload 6, 2) ∧ decode cX12_spelled 100 = .ok (.ldc2_w 119, 3) ∧ decode cX12_spelled 103 = .ok (.lmul, 1) ∧ True := dkl_ok (c := cX12_spelled) [(.goto 5, 3), (.lload 6, 2), (.lstore 6, 2), (.iload 5, 2), (.ifCond .le 20, 3), (.lload 6, 2), (.ldc2_w 119, 3), (.lmul, 1)] 86 (by decide +kernel)
theorem dX12_spelled_86 : decode cX12_spelled 86 = .ok (.goto 5, 3) := eX12_spelled_86.1
theorem dX12_spelled_89 : decode cX12_spelled 89 = .ok (.lload 6, 2) := eX12_spelled_86.2.1
theorem dX12_spelled_91 : decode cX12_spelled 91 = .ok (.lstore 6, 2) := eX12_spelled_86.2.2.1
theorem dX12_spelled_93 : decode cX12_spelled 93 = .ok (.iload 5, 2) := eX12_spelled_86.2.2.2.1
theorem dX12_spelled_95 : decode cX12_spelled 95 = .ok (.ifCond .le 20, 3) := eX12_spelled_86.2.2.2.2.1
theorem dX12_spelled_98 : decode cX12_spelled 98 = .ok (.lload 6, 2) := eX12_spelled_86.2.2.2.2.2.1
theorem dX12_spelled_100 : decode cX12_spelled 100 = .ok (.ldc2_w 119, 3) := eX12_spelled_86.2.2.2.2.2.2.1
theorem dX12_spelled_103 : decode cX12_spelled 103 = .ok (.lmul, 1) := eX12_spelled_86.2.2.2.2.2.2.2.1
theorem eX12_spelled_104 : decode cX12_spelled 104 = .ok (.iload 5, 2) ∧ decode cX12_spelled 106 = .ok (.i2l, 1) ∧ decode cX12_spelled 107 = .ok (.ladd, 1) ∧ decode cX12_spelled 108 = .ok (.ldc2_w 121, 3) ∧ decode cX12_spelled 111 = .ok (.lsub, 1) ∧ decode cX12_spelled 112 = .ok (.goto 5, 3) ∧ decode cX12_spelled 115 = .ok (.lload 6, 2) ∧ decode cX12_spelled 117 = .ok (.lreturn, 1) ∧ True := dkl_ok (c := cX12_spelled) [(.iload 5, 2), (.i2l, 1), (.ladd, 1), (.ldc2_w 121, 3), (.lsub, 1), (.goto 5, 3), (.lload 6, 2), (.lreturn, 1)] 104 (by decide +kernel)
theorem dX12_spelled_104 : decode cX12_spelled 104 = .ok (.iload 5, 2) := eX12_spelled_104.1
theorem dX12_spelled_106 : decode cX12_spelled 106 = .ok (.i2l, 1) := eX12_spelled_104.2.1
theorem dX12_spelled_107 : decode cX12_spelled 107 = .ok (.ladd, 1) := eX12_spelled_104.2.2.1
theorem dX12_spelled_108 : decode cX12_spelled 108 = .ok (.ldc2_w 121, 3) := eX12_spelled_104.2.2.2.1
theorem dX12_spelled_111 : decode cX12_spelled 111 = .ok (.lsub, 1) := eX12_spelled_104.2.2.2.2.1
theorem dX12_spelled_112 : decode cX12_spelled 112 = .ok (.goto 5, 3) := eX12_spelled_104.2.2.2.2.2.1
theorem dX12_spelled_115 : decode cX12_spelled 115 = .ok (.lload 6, 2) := eX12_spelled_104.2.2.2.2.2.2.1
theorem dX12_spelled_117 : decode cX12_spelled 117 = .ok (.lreturn, 1) := eX12_spelled_104.2.2.2.2.2.2.2.1
theorem eX12_isWord_0 : decode cX12_isWord 0 = .ok (.aload_n 0, 1) ∧ decode cX12_isWord 1 = .ok (.getfield 110, 3) ∧ decode cX12_isWord 4 = .ok (.iconst 1, 1) ∧ decode cX12_isWord 5 = .ok (.if_icmp .ne 16, 3) ∧ decode cX12_isWord 8 = .ok (.aload_n 0, 1) ∧ decode cX12_isWord 9 = .ok (.getfield 116, 3) ∧ decode cX12_isWord 12 = .ok (.lload_n 1, 1) ∧ decode cX12_isWord 13 = .ok (.lcmp, 1) ∧ True := dkl_ok (c := cX12_isWord) [(.aload_n 0, 1), (.getfield 110, 3), (.iconst 1, 1), (.if_icmp .ne 16, 3), (.aload_n 0, 1), (.getfield 116, 3), (.lload_n 1, 1), (.lcmp, 1)] 0 (by decide +kernel)
theorem dX12_isWord_0 : decode cX12_isWord 0 = .ok (.aload_n 0, 1) := eX12_isWord_0.1
theorem dX12_isWord_1 : decode cX12_isWord 1 = .ok (.getfield 110, 3) := eX12_isWord_0.2.1
theorem dX12_isWord_4 : decode cX12_isWord 4 = .ok (.iconst 1, 1) := eX12_isWord_0.2.2.1
theorem dX12_isWord_5 : decode cX12_isWord 5 = .ok (.if_icmp .ne 16, 3) := eX12_isWord_0.2.2.2.1
theorem dX12_isWord_8 : decode cX12_isWord 8 = .ok (.aload_n 0, 1) := eX12_isWord_0.2.2.2.2.1
theorem dX12_isWord_9 : decode cX12_isWord 9 = .ok (.getfield 116, 3) := eX12_isWord_0.2.2.2.2.2.1
theorem dX12_isWord_12 : decode cX12_isWord 12 = .ok (.lload_n 1, 1) := eX12_isWord_0.2.2.2.2.2.2.1
theorem dX12_isWord_13 : decode cX12_isWord 13 = .ok (.lcmp, 1) := eX12_isWord_0.2.2.2.2.2.2.2.1
theorem eX12_isWord_14 : decode cX12_isWord 14 = .ok (.ifCond .ne 7, 3) ∧ decode cX12_isWord 17 = .ok (.iconst 1, 1) ∧ decode cX12_isWord 18 = .ok (.goto 4, 3) ∧ decode cX12_isWord 21 = .ok (.iconst 0, 1) ∧ decode cX12_isWord 22 = .ok (.ireturn, 1) ∧ True := dkl_ok (c := cX12_isWord) [(.ifCond .ne 7, 3), (.iconst 1, 1), (.goto 4, 3), (.iconst 0, 1), (.ireturn, 1)] 14 (by decide +kernel)
theorem dX12_isWord_14 : decode cX12_isWord 14 = .ok (.ifCond .ne 7, 3) := eX12_isWord_14.1
theorem dX12_isWord_17 : decode cX12_isWord 17 = .ok (.iconst 1, 1) := eX12_isWord_14.2.1
theorem dX12_isWord_18 : decode cX12_isWord 18 = .ok (.goto 4, 3) := eX12_isWord_14.2.2.1
theorem dX12_isWord_21 : decode cX12_isWord 21 = .ok (.iconst 0, 1) := eX12_isWord_14.2.2.2.1
theorem dX12_isWord_22 : decode cX12_isWord 22 = .ok (.ireturn, 1) := eX12_isWord_14.2.2.2.2.1
theorem eX12_isKinds_0 : decode cX12_isKinds 0 = .ok (.aload_n 0, 1) ∧ decode cX12_isKinds 1 = .ok (.bipush 107, 2) ∧ decode cX12_isKinds 3 = .ok (.bipush 105, 2) ∧ decode cX12_isKinds 5 = .ok (.bipush 110, 2) ∧ decode cX12_isKinds 7 = .ok (.bipush 100, 2) ∧ decode cX12_isKinds 9 = .ok (.bipush 115, 2) ∧ decode cX12_isKinds 11 = .ok (.iconst 0, 1) ∧ decode cX12_isKinds 12 = .ok (.invokestatic 135, 3) ∧ True := dkl_ok (c := cX12_isKinds) [(.aload_n 0, 1), (.bipush 107, 2), (.bipush 105, 2), (.bipush 110, 2), (.bipush 100, 2), (.bipush 115, 2), (.iconst 0, 1), (.invokestatic 135, 3)] 0 (by decide +kernel)
theorem dX12_isKinds_0 : decode cX12_isKinds 0 = .ok (.aload_n 0, 1) := eX12_isKinds_0.1
theorem dX12_isKinds_1 : decode cX12_isKinds 1 = .ok (.bipush 107, 2) := eX12_isKinds_0.2.1
theorem dX12_isKinds_3 : decode cX12_isKinds 3 = .ok (.bipush 105, 2) := eX12_isKinds_0.2.2.1
theorem dX12_isKinds_5 : decode cX12_isKinds 5 = .ok (.bipush 110, 2) := eX12_isKinds_0.2.2.2.1
theorem dX12_isKinds_7 : decode cX12_isKinds 7 = .ok (.bipush 100, 2) := eX12_isKinds_0.2.2.2.2.1
theorem dX12_isKinds_9 : decode cX12_isKinds 9 = .ok (.bipush 115, 2) := eX12_isKinds_0.2.2.2.2.2.1
theorem dX12_isKinds_11 : decode cX12_isKinds 11 = .ok (.iconst 0, 1) := eX12_isKinds_0.2.2.2.2.2.2.1
theorem dX12_isKinds_12 : decode cX12_isKinds 12 = .ok (.invokestatic 135, 3) := eX12_isKinds_0.2.2.2.2.2.2.2.1
theorem eX12_isKinds_15 : decode cX12_isKinds 15 = .ok (.invokevirtual 139, 3) ∧ decode cX12_isKinds 18 = .ok (.ireturn, 1) ∧ True := dkl_ok (c := cX12_isKinds) [(.invokevirtual 139, 3), (.ireturn, 1)] 15 (by decide +kernel)
theorem dX12_isKinds_15 : decode cX12_isKinds 15 = .ok (.invokevirtual 139, 3) := eX12_isKinds_15.1
theorem dX12_isKinds_18 : decode cX12_isKinds 18 = .ok (.ireturn, 1) := eX12_isKinds_15.2.1
theorem eX12_isEach_0 : decode cX12_isEach 0 = .ok (.aload_n 0, 1) ∧ decode cX12_isEach 1 = .ok (.bipush 101, 2) ∧ decode cX12_isEach 3 = .ok (.bipush 97, 2) ∧ decode cX12_isEach 5 = .ok (.bipush 99, 2) ∧ decode cX12_isEach 7 = .ok (.bipush 104, 2) ∧ decode cX12_isEach 9 = .ok (.iconst 0, 1) ∧ decode cX12_isEach 10 = .ok (.iconst 0, 1) ∧ decode cX12_isEach 11 = .ok (.invokestatic 135, 3) ∧ True := dkl_ok (c := cX12_isEach) [(.aload_n 0, 1), (.bipush 101, 2), (.bipush 97, 2), (.bipush 99, 2), (.bipush 104, 2), (.iconst 0, 1), (.iconst 0, 1), (.invokestatic 135, 3)] 0 (by decide +kernel)
theorem dX12_isEach_0 : decode cX12_isEach 0 = .ok (.aload_n 0, 1) := eX12_isEach_0.1
theorem dX12_isEach_1 : decode cX12_isEach 1 = .ok (.bipush 101, 2) := eX12_isEach_0.2.1
theorem dX12_isEach_3 : decode cX12_isEach 3 = .ok (.bipush 97, 2) := eX12_isEach_0.2.2.1
theorem dX12_isEach_5 : decode cX12_isEach 5 = .ok (.bipush 99, 2) := eX12_isEach_0.2.2.2.1
theorem dX12_isEach_7 : decode cX12_isEach 7 = .ok (.bipush 104, 2) := eX12_isEach_0.2.2.2.2.1
theorem dX12_isEach_9 : decode cX12_isEach 9 = .ok (.iconst 0, 1) := eX12_isEach_0.2.2.2.2.2.1
theorem dX12_isEach_10 : decode cX12_isEach 10 = .ok (.iconst 0, 1) := eX12_isEach_0.2.2.2.2.2.2.1
theorem dX12_isEach_11 : decode cX12_isEach 11 = .ok (.invokestatic 135, 3) := eX12_isEach_0.2.2.2.2.2.2.2.1
theorem eX12_isEach_14 : decode cX12_isEach 14 = .ok (.invokevirtual 139, 3) ∧ decode cX12_isEach 17 = .ok (.ireturn, 1) ∧ True := dkl_ok (c := cX12_isEach) [(.invokevirtual 139, 3), (.ireturn, 1)] 14 (by decide +kernel)
theorem dX12_isEach_14 : decode cX12_isEach 14 = .ok (.invokevirtual 139, 3) := eX12_isEach_14.1
theorem dX12_isEach_17 : decode cX12_isEach 17 = .ok (.ireturn, 1) := eX12_isEach_14.2.1
theorem eX12_isLaw_0 : decode cX12_isLaw 0 = .ok (.aload_n 0, 1) ∧ decode cX12_isLaw 1 = .ok (.bipush 108, 2) ∧ decode cX12_isLaw 3 = .ok (.bipush 97, 2) ∧ decode cX12_isLaw 5 = .ok (.bipush 119, 2) ∧ decode cX12_isLaw 7 = .ok (.iconst 0, 1) ∧ decode cX12_isLaw 8 = .ok (.iconst 0, 1) ∧ decode cX12_isLaw 9 = .ok (.iconst 0, 1) ∧ decode cX12_isLaw 10 = .ok (.invokestatic 135, 3) ∧ True := dkl_ok (c := cX12_isLaw) [(.aload_n 0, 1), (.bipush 108, 2), (.bipush 97, 2), (.bipush 119, 2), (.iconst 0, 1), (.iconst 0, 1), (.iconst 0, 1), (.invokestatic 135, 3)] 0 (by decide +kernel)
theorem dX12_isLaw_0 : decode cX12_isLaw 0 = .ok (.aload_n 0, 1) := eX12_isLaw_0.1
theorem dX12_isLaw_1 : decode cX12_isLaw 1 = .ok (.bipush 108, 2) := eX12_isLaw_0.2.1
theorem dX12_isLaw_3 : decode cX12_isLaw 3 = .ok (.bipush 97, 2) := eX12_isLaw_0.2.2.1
theorem dX12_isLaw_5 : decode cX12_isLaw 5 = .ok (.bipush 119, 2) := eX12_isLaw_0.2.2.2.1
theorem dX12_isLaw_7 : decode cX12_isLaw 7 = .ok (.iconst 0, 1) := eX12_isLaw_0.2.2.2.2.1
theorem dX12_isLaw_8 : decode cX12_isLaw 8 = .ok (.iconst 0, 1) := eX12_isLaw_0.2.2.2.2.2.1
theorem dX12_isLaw_9 : decode cX12_isLaw 9 = .ok (.iconst 0, 1) := eX12_isLaw_0.2.2.2.2.2.2.1
theorem dX12_isLaw_10 : decode cX12_isLaw 10 = .ok (.invokestatic 135, 3) := eX12_isLaw_0.2.2.2.2.2.2.2.1
theorem eX12_isLaw_13 : decode cX12_isLaw 13 = .ok (.invokevirtual 139, 3) ∧ decode cX12_isLaw 16 = .ok (.ireturn, 1) ∧ True := dkl_ok (c := cX12_isLaw) [(.invokevirtual 139, 3), (.ireturn, 1)] 13 (by decide +kernel)
theorem dX12_isLaw_13 : decode cX12_isLaw 13 = .ok (.invokevirtual 139, 3) := eX12_isLaw_13.1
theorem dX12_isLaw_16 : decode cX12_isLaw 16 = .ok (.ireturn, 1) := eX12_isLaw_13.2.1
theorem eX12_isMost_0 : decode cX12_isMost 0 = .ok (.aload_n 0, 1) ∧ decode cX12_isMost 1 = .ok (.bipush 109, 2) ∧ decode cX12_isMost 3 = .ok (.bipush 111, 2) ∧ decode cX12_isMost 5 = .ok (.bipush 115, 2) ∧ decode cX12_isMost 7 = .ok (.bipush 116, 2) ∧ decode cX12_isMost 9 = .ok (.iconst 0, 1) ∧ decode cX12_isMost 10 = .ok (.iconst 0, 1) ∧ decode cX12_isMost 11 = .ok (.invokestatic 135, 3) ∧ True := dkl_ok (c := cX12_isMost) [(.aload_n 0, 1), (.bipush 109, 2), (.bipush 111, 2), (.bipush 115, 2), (.bipush 116, 2), (.iconst 0, 1), (.iconst 0, 1), (.invokestatic 135, 3)] 0 (by decide +kernel)
theorem dX12_isMost_0 : decode cX12_isMost 0 = .ok (.aload_n 0, 1) := eX12_isMost_0.1
theorem dX12_isMost_1 : decode cX12_isMost 1 = .ok (.bipush 109, 2) := eX12_isMost_0.2.1
theorem dX12_isMost_3 : decode cX12_isMost 3 = .ok (.bipush 111, 2) := eX12_isMost_0.2.2.1
theorem dX12_isMost_5 : decode cX12_isMost 5 = .ok (.bipush 115, 2) := eX12_isMost_0.2.2.2.1
theorem dX12_isMost_7 : decode cX12_isMost 7 = .ok (.bipush 116, 2) := eX12_isMost_0.2.2.2.2.1
theorem dX12_isMost_9 : decode cX12_isMost 9 = .ok (.iconst 0, 1) := eX12_isMost_0.2.2.2.2.2.1
theorem dX12_isMost_10 : decode cX12_isMost 10 = .ok (.iconst 0, 1) := eX12_isMost_0.2.2.2.2.2.2.1
theorem dX12_isMost_11 : decode cX12_isMost 11 = .ok (.invokestatic 135, 3) := eX12_isMost_0.2.2.2.2.2.2.2.1
theorem eX12_isMost_14 : decode cX12_isMost 14 = .ok (.invokevirtual 139, 3) ∧ decode cX12_isMost 17 = .ok (.ireturn, 1) ∧ True := dkl_ok (c := cX12_isMost) [(.invokevirtual 139, 3), (.ireturn, 1)] 14 (by decide +kernel)
theorem dX12_isMost_14 : decode cX12_isMost 14 = .ok (.invokevirtual 139, 3) := eX12_isMost_14.1
theorem dX12_isMost_17 : decode cX12_isMost 17 = .ok (.ireturn, 1) := eX12_isMost_14.2.1
theorem eX12_isPlayer_0 : decode cX12_isPlayer 0 = .ok (.aload_n 0, 1) ∧ decode cX12_isPlayer 1 = .ok (.bipush 112, 2) ∧ decode cX12_isPlayer 3 = .ok (.bipush 108, 2) ∧ decode cX12_isPlayer 5 = .ok (.bipush 97, 2) ∧ decode cX12_isPlayer 7 = .ok (.bipush 121, 2) ∧ decode cX12_isPlayer 9 = .ok (.bipush 101, 2) ∧ decode cX12_isPlayer 11 = .ok (.bipush 114, 2) ∧ decode cX12_isPlayer 13 = .ok (.invokestatic 135, 3) ∧ True := dkl_ok (c := cX12_isPlayer) [(.aload_n 0, 1), (.bipush 112, 2), (.bipush 108, 2), (.bipush 97, 2), (.bipush 121, 2), (.bipush 101, 2), (.bipush 114, 2), (.invokestatic 135, 3)] 0 (by decide +kernel)
theorem dX12_isPlayer_0 : decode cX12_isPlayer 0 = .ok (.aload_n 0, 1) := eX12_isPlayer_0.1
theorem dX12_isPlayer_1 : decode cX12_isPlayer 1 = .ok (.bipush 112, 2) := eX12_isPlayer_0.2.1
theorem dX12_isPlayer_3 : decode cX12_isPlayer 3 = .ok (.bipush 108, 2) := eX12_isPlayer_0.2.2.1
theorem dX12_isPlayer_5 : decode cX12_isPlayer 5 = .ok (.bipush 97, 2) := eX12_isPlayer_0.2.2.2.1
theorem dX12_isPlayer_7 : decode cX12_isPlayer 7 = .ok (.bipush 121, 2) := eX12_isPlayer_0.2.2.2.2.1
theorem dX12_isPlayer_9 : decode cX12_isPlayer 9 = .ok (.bipush 101, 2) := eX12_isPlayer_0.2.2.2.2.2.1
theorem dX12_isPlayer_11 : decode cX12_isPlayer 11 = .ok (.bipush 114, 2) := eX12_isPlayer_0.2.2.2.2.2.2.1
theorem dX12_isPlayer_13 : decode cX12_isPlayer 13 = .ok (.invokestatic 135, 3) := eX12_isPlayer_0.2.2.2.2.2.2.2.1
theorem eX12_isPlayer_16 : decode cX12_isPlayer 16 = .ok (.invokevirtual 139, 3) ∧ decode cX12_isPlayer 19 = .ok (.ireturn, 1) ∧ True := dkl_ok (c := cX12_isPlayer) [(.invokevirtual 139, 3), (.ireturn, 1)] 16 (by decide +kernel)
theorem dX12_isPlayer_16 : decode cX12_isPlayer 16 = .ok (.invokevirtual 139, 3) := eX12_isPlayer_16.1
theorem dX12_isPlayer_19 : decode cX12_isPlayer 19 = .ok (.ireturn, 1) := eX12_isPlayer_16.2.1
theorem eX12_isLies_0 : decode cX12_isLies 0 = .ok (.aload_n 0, 1) ∧ decode cX12_isLies 1 = .ok (.bipush 108, 2) ∧ decode cX12_isLies 3 = .ok (.bipush 105, 2) ∧ decode cX12_isLies 5 = .ok (.bipush 101, 2) ∧ decode cX12_isLies 7 = .ok (.bipush 115, 2) ∧ decode cX12_isLies 9 = .ok (.iconst 0, 1) ∧ decode cX12_isLies 10 = .ok (.iconst 0, 1) ∧ decode cX12_isLies 11 = .ok (.invokestatic 135, 3) ∧ True := dkl_ok (c := cX12_isLies) [(.aload_n 0, 1), (.bipush 108, 2), (.bipush 105, 2), (.bipush 101, 2), (.bipush 115, 2), (.iconst 0, 1), (.iconst 0, 1), (.invokestatic 135, 3)] 0 (by decide +kernel)
theorem dX12_isLies_0 : decode cX12_isLies 0 = .ok (.aload_n 0, 1) := eX12_isLies_0.1
theorem dX12_isLies_1 : decode cX12_isLies 1 = .ok (.bipush 108, 2) := eX12_isLies_0.2.1
theorem dX12_isLies_3 : decode cX12_isLies 3 = .ok (.bipush 105, 2) := eX12_isLies_0.2.2.1
theorem dX12_isLies_5 : decode cX12_isLies 5 = .ok (.bipush 101, 2) := eX12_isLies_0.2.2.2.1
theorem dX12_isLies_7 : decode cX12_isLies 7 = .ok (.bipush 115, 2) := eX12_isLies_0.2.2.2.2.1
theorem dX12_isLies_9 : decode cX12_isLies 9 = .ok (.iconst 0, 1) := eX12_isLies_0.2.2.2.2.2.1
theorem dX12_isLies_10 : decode cX12_isLies 10 = .ok (.iconst 0, 1) := eX12_isLies_0.2.2.2.2.2.2.1
theorem dX12_isLies_11 : decode cX12_isLies 11 = .ok (.invokestatic 135, 3) := eX12_isLies_0.2.2.2.2.2.2.2.1
theorem eX12_isLies_14 : decode cX12_isLies 14 = .ok (.invokevirtual 139, 3) ∧ decode cX12_isLies 17 = .ok (.ireturn, 1) ∧ True := dkl_ok (c := cX12_isLies) [(.invokevirtual 139, 3), (.ireturn, 1)] 14 (by decide +kernel)
theorem dX12_isLies_14 : decode cX12_isLies 14 = .ok (.invokevirtual 139, 3) := eX12_isLies_14.1
theorem dX12_isLies_17 : decode cX12_isLies 17 = .ok (.ireturn, 1) := eX12_isLies_14.2.1
theorem eX12_isDoubts_0 : decode cX12_isDoubts 0 = .ok (.aload_n 0, 1) ∧ decode cX12_isDoubts 1 = .ok (.bipush 100, 2) ∧ decode cX12_isDoubts 3 = .ok (.bipush 111, 2) ∧ decode cX12_isDoubts 5 = .ok (.bipush 117, 2) ∧ decode cX12_isDoubts 7 = .ok (.bipush 98, 2) ∧ decode cX12_isDoubts 9 = .ok (.bipush 116, 2) ∧ decode cX12_isDoubts 11 = .ok (.bipush 115, 2) ∧ decode cX12_isDoubts 13 = .ok (.invokestatic 135, 3) ∧ True := dkl_ok (c := cX12_isDoubts) [(.aload_n 0, 1), (.bipush 100, 2), (.bipush 111, 2), (.bipush 117, 2), (.bipush 98, 2), (.bipush 116, 2), (.bipush 115, 2), (.invokestatic 135, 3)] 0 (by decide +kernel)
theorem dX12_isDoubts_0 : decode cX12_isDoubts 0 = .ok (.aload_n 0, 1) := eX12_isDoubts_0.1
theorem dX12_isDoubts_1 : decode cX12_isDoubts 1 = .ok (.bipush 100, 2) := eX12_isDoubts_0.2.1
theorem dX12_isDoubts_3 : decode cX12_isDoubts 3 = .ok (.bipush 111, 2) := eX12_isDoubts_0.2.2.1
theorem dX12_isDoubts_5 : decode cX12_isDoubts 5 = .ok (.bipush 117, 2) := eX12_isDoubts_0.2.2.2.1
theorem dX12_isDoubts_7 : decode cX12_isDoubts 7 = .ok (.bipush 98, 2) := eX12_isDoubts_0.2.2.2.2.1
theorem dX12_isDoubts_9 : decode cX12_isDoubts 9 = .ok (.bipush 116, 2) := eX12_isDoubts_0.2.2.2.2.2.1
theorem dX12_isDoubts_11 : decode cX12_isDoubts 11 = .ok (.bipush 115, 2) := eX12_isDoubts_0.2.2.2.2.2.2.1
theorem dX12_isDoubts_13 : decode cX12_isDoubts 13 = .ok (.invokestatic 135, 3) := eX12_isDoubts_0.2.2.2.2.2.2.2.1
theorem eX12_isDoubts_16 : decode cX12_isDoubts 16 = .ok (.invokevirtual 139, 3) ∧ decode cX12_isDoubts 19 = .ok (.ireturn, 1) ∧ True := dkl_ok (c := cX12_isDoubts) [(.invokevirtual 139, 3), (.ireturn, 1)] 16 (by decide +kernel)
theorem dX12_isDoubts_16 : decode cX12_isDoubts 16 = .ok (.invokevirtual 139, 3) := eX12_isDoubts_16.1
theorem dX12_isDoubts_19 : decode cX12_isDoubts 19 = .ok (.ireturn, 1) := eX12_isDoubts_16.2.1
theorem eX12_isHand_0 : decode cX12_isHand 0 = .ok (.aload_n 0, 1) ∧ decode cX12_isHand 1 = .ok (.bipush 104, 2) ∧ decode cX12_isHand 3 = .ok (.bipush 97, 2) ∧ decode cX12_isHand 5 = .ok (.bipush 110, 2) ∧ decode cX12_isHand 7 = .ok (.bipush 100, 2) ∧ decode cX12_isHand 9 = .ok (.iconst 0, 1) ∧ decode cX12_isHand 10 = .ok (.iconst 0, 1) ∧ decode cX12_isHand 11 = .ok (.invokestatic 135, 3) ∧ True := dkl_ok (c := cX12_isHand) [(.aload_n 0, 1), (.bipush 104, 2), (.bipush 97, 2), (.bipush 110, 2), (.bipush 100, 2), (.iconst 0, 1), (.iconst 0, 1), (.invokestatic 135, 3)] 0 (by decide +kernel)
theorem dX12_isHand_0 : decode cX12_isHand 0 = .ok (.aload_n 0, 1) := eX12_isHand_0.1
theorem dX12_isHand_1 : decode cX12_isHand 1 = .ok (.bipush 104, 2) := eX12_isHand_0.2.1
theorem dX12_isHand_3 : decode cX12_isHand 3 = .ok (.bipush 97, 2) := eX12_isHand_0.2.2.1
theorem dX12_isHand_5 : decode cX12_isHand 5 = .ok (.bipush 110, 2) := eX12_isHand_0.2.2.2.1
theorem dX12_isHand_7 : decode cX12_isHand 7 = .ok (.bipush 100, 2) := eX12_isHand_0.2.2.2.2.1
theorem dX12_isHand_9 : decode cX12_isHand 9 = .ok (.iconst 0, 1) := eX12_isHand_0.2.2.2.2.2.1
theorem dX12_isHand_10 : decode cX12_isHand 10 = .ok (.iconst 0, 1) := eX12_isHand_0.2.2.2.2.2.2.1
theorem dX12_isHand_11 : decode cX12_isHand 11 = .ok (.invokestatic 135, 3) := eX12_isHand_0.2.2.2.2.2.2.2.1
theorem eX12_isHand_14 : decode cX12_isHand 14 = .ok (.invokevirtual 139, 3) ∧ decode cX12_isHand 17 = .ok (.ireturn, 1) ∧ True := dkl_ok (c := cX12_isHand) [(.invokevirtual 139, 3), (.ireturn, 1)] 14 (by decide +kernel)
theorem dX12_isHand_14 : decode cX12_isHand 14 = .ok (.invokevirtual 139, 3) := eX12_isHand_14.1
theorem dX12_isHand_17 : decode cX12_isHand 17 = .ok (.ireturn, 1) := eX12_isHand_14.2.1
theorem eX12_isOf_0 : decode cX12_isOf 0 = .ok (.aload_n 0, 1) ∧ decode cX12_isOf 1 = .ok (.bipush 111, 2) ∧ decode cX12_isOf 3 = .ok (.bipush 102, 2) ∧ decode cX12_isOf 5 = .ok (.iconst 0, 1) ∧ decode cX12_isOf 6 = .ok (.iconst 0, 1) ∧ decode cX12_isOf 7 = .ok (.iconst 0, 1) ∧ decode cX12_isOf 8 = .ok (.iconst 0, 1) ∧ decode cX12_isOf 9 = .ok (.invokestatic 135, 3) ∧ True := dkl_ok (c := cX12_isOf) [(.aload_n 0, 1), (.bipush 111, 2), (.bipush 102, 2), (.iconst 0, 1), (.iconst 0, 1), (.iconst 0, 1), (.iconst 0, 1), (.invokestatic 135, 3)] 0 (by decide +kernel)
theorem dX12_isOf_0 : decode cX12_isOf 0 = .ok (.aload_n 0, 1) := eX12_isOf_0.1
theorem dX12_isOf_1 : decode cX12_isOf 1 = .ok (.bipush 111, 2) := eX12_isOf_0.2.1
theorem dX12_isOf_3 : decode cX12_isOf 3 = .ok (.bipush 102, 2) := eX12_isOf_0.2.2.1
theorem dX12_isOf_5 : decode cX12_isOf 5 = .ok (.iconst 0, 1) := eX12_isOf_0.2.2.2.1
theorem dX12_isOf_6 : decode cX12_isOf 6 = .ok (.iconst 0, 1) := eX12_isOf_0.2.2.2.2.1
theorem dX12_isOf_7 : decode cX12_isOf 7 = .ok (.iconst 0, 1) := eX12_isOf_0.2.2.2.2.2.1
theorem dX12_isOf_8 : decode cX12_isOf 8 = .ok (.iconst 0, 1) := eX12_isOf_0.2.2.2.2.2.2.1
theorem dX12_isOf_9 : decode cX12_isOf 9 = .ok (.invokestatic 135, 3) := eX12_isOf_0.2.2.2.2.2.2.2.1
theorem eX12_isOf_12 : decode cX12_isOf 12 = .ok (.invokevirtual 139, 3) ∧ decode cX12_isOf 15 = .ok (.ireturn, 1) ∧ True := dkl_ok (c := cX12_isOf) [(.invokevirtual 139, 3), (.ireturn, 1)] 12 (by decide +kernel)
theorem dX12_isOf_12 : decode cX12_isOf 12 = .ok (.invokevirtual 139, 3) := eX12_isOf_12.1
theorem dX12_isOf_15 : decode cX12_isOf 15 = .ok (.ireturn, 1) := eX12_isOf_12.2.1
theorem eX12_lawWord_0 : decode cX12_lawWord 0 = .ok (.aload_n 0, 1) ∧ decode cX12_lawWord 1 = .ok (.bipush 117, 2) ∧ decode cX12_lawWord 3 = .ok (.bipush 112, 2) ∧ decode cX12_lawWord 5 = .ok (.iconst 0, 1) ∧ decode cX12_lawWord 6 = .ok (.iconst 0, 1) ∧ decode cX12_lawWord 7 = .ok (.iconst 0, 1) ∧ decode cX12_lawWord 8 = .ok (.iconst 0, 1) ∧ decode cX12_lawWord 9 = .ok (.invokestatic 135, 3) ∧ True := dkl_ok (c := cX12_lawWord) [(.aload_n 0, 1), (.bipush 117, 2), (.bipush 112, 2), (.iconst 0, 1), (.iconst 0, 1), (.iconst 0, 1), (.iconst 0, 1), (.invokestatic 135, 3)] 0 (by decide +kernel)
theorem dX12_lawWord_0 : decode cX12_lawWord 0 = .ok (.aload_n 0, 1) := eX12_lawWord_0.1
theorem dX12_lawWord_1 : decode cX12_lawWord 1 = .ok (.bipush 117, 2) := eX12_lawWord_0.2.1
theorem dX12_lawWord_3 : decode cX12_lawWord 3 = .ok (.bipush 112, 2) := eX12_lawWord_0.2.2.1
theorem dX12_lawWord_5 : decode cX12_lawWord 5 = .ok (.iconst 0, 1) := eX12_lawWord_0.2.2.2.1
theorem dX12_lawWord_6 : decode cX12_lawWord 6 = .ok (.iconst 0, 1) := eX12_lawWord_0.2.2.2.2.1
theorem dX12_lawWord_7 : decode cX12_lawWord 7 = .ok (.iconst 0, 1) := eX12_lawWord_0.2.2.2.2.2.1
theorem dX12_lawWord_8 : decode cX12_lawWord 8 = .ok (.iconst 0, 1) := eX12_lawWord_0.2.2.2.2.2.2.1
theorem dX12_lawWord_9 : decode cX12_lawWord 9 = .ok (.invokestatic 135, 3) := eX12_lawWord_0.2.2.2.2.2.2.2.1
theorem eX12_lawWord_12 : decode cX12_lawWord 12 = .ok (.invokevirtual 139, 3) ∧ decode cX12_lawWord 15 = .ok (.ifCond .eq 5, 3) ∧ decode cX12_lawWord 18 = .ok (.iconst 0, 1) ∧ decode cX12_lawWord 19 = .ok (.ireturn, 1) ∧ decode cX12_lawWord 20 = .ok (.aload_n 0, 1) ∧ decode cX12_lawWord 21 = .ok (.bipush 100, 2) ∧ decode cX12_lawWord 23 = .ok (.bipush 111, 2) ∧ decode cX12_lawWord 25 = .ok (.bipush 119, 2) ∧ True := dkl_ok (c := cX12_lawWord) [(.invokevirtual 139, 3), (.ifCond .eq 5, 3), (.iconst 0, 1), (.ireturn, 1), (.aload_n 0, 1), (.bipush 100, 2), (.bipush 111, 2), (.bipush 119, 2)] 12 (by decide +kernel)
theorem dX12_lawWord_12 : decode cX12_lawWord 12 = .ok (.invokevirtual 139, 3) := eX12_lawWord_12.1
theorem dX12_lawWord_15 : decode cX12_lawWord 15 = .ok (.ifCond .eq 5, 3) := eX12_lawWord_12.2.1
theorem dX12_lawWord_18 : decode cX12_lawWord 18 = .ok (.iconst 0, 1) := eX12_lawWord_12.2.2.1
theorem dX12_lawWord_19 : decode cX12_lawWord 19 = .ok (.ireturn, 1) := eX12_lawWord_12.2.2.2.1
theorem dX12_lawWord_20 : decode cX12_lawWord 20 = .ok (.aload_n 0, 1) := eX12_lawWord_12.2.2.2.2.1
theorem dX12_lawWord_21 : decode cX12_lawWord 21 = .ok (.bipush 100, 2) := eX12_lawWord_12.2.2.2.2.2.1
theorem dX12_lawWord_23 : decode cX12_lawWord 23 = .ok (.bipush 111, 2) := eX12_lawWord_12.2.2.2.2.2.2.1
theorem dX12_lawWord_25 : decode cX12_lawWord 25 = .ok (.bipush 119, 2) := eX12_lawWord_12.2.2.2.2.2.2.2.1
theorem eX12_lawWord_27 : decode cX12_lawWord 27 = .ok (.bipush 110, 2) ∧ decode cX12_lawWord 29 = .ok (.iconst 0, 1) ∧ decode cX12_lawWord 30 = .ok (.iconst 0, 1) ∧ decode cX12_lawWord 31 = .ok (.invokestatic 135, 3) ∧ decode cX12_lawWord 34 = .ok (.invokevirtual 139, 3) ∧ decode cX12_lawWord 37 = .ok (.ifCond .eq 5, 3) ∧ decode cX12_lawWord 40 = .ok (.iconst 1, 1) ∧ decode cX12_lawWord 41 = .ok (.ireturn, 1) ∧ True := dkl_ok (c := cX12_lawWord) [(.bipush 110, 2), (.iconst 0, 1), (.iconst 0, 1), (.invokestatic 135, 3), (.invokevirtual 139, 3), (.ifCond .eq 5, 3), (.iconst 1, 1), (.ireturn, 1)] 27 (by decide +kernel)
theorem dX12_lawWord_27 : decode cX12_lawWord 27 = .ok (.bipush 110, 2) := eX12_lawWord_27.1
theorem dX12_lawWord_29 : decode cX12_lawWord 29 = .ok (.iconst 0, 1) := eX12_lawWord_27.2.1
theorem dX12_lawWord_30 : decode cX12_lawWord 30 = .ok (.iconst 0, 1) := eX12_lawWord_27.2.2.1
theorem dX12_lawWord_31 : decode cX12_lawWord 31 = .ok (.invokestatic 135, 3) := eX12_lawWord_27.2.2.2.1
theorem dX12_lawWord_34 : decode cX12_lawWord 34 = .ok (.invokevirtual 139, 3) := eX12_lawWord_27.2.2.2.2.1
theorem dX12_lawWord_37 : decode cX12_lawWord 37 = .ok (.ifCond .eq 5, 3) := eX12_lawWord_27.2.2.2.2.2.1
theorem dX12_lawWord_40 : decode cX12_lawWord 40 = .ok (.iconst 1, 1) := eX12_lawWord_27.2.2.2.2.2.2.1
theorem dX12_lawWord_41 : decode cX12_lawWord 41 = .ok (.ireturn, 1) := eX12_lawWord_27.2.2.2.2.2.2.2.1
theorem eX12_lawWord_42 : decode cX12_lawWord 42 = .ok (.aload_n 0, 1) ∧ decode cX12_lawWord 43 = .ok (.bipush 115, 2) ∧ decode cX12_lawWord 45 = .ok (.bipush 97, 2) ∧ decode cX12_lawWord 47 = .ok (.bipush 109, 2) ∧ decode cX12_lawWord 49 = .ok (.bipush 101, 2) ∧ decode cX12_lawWord 51 = .ok (.iconst 0, 1) ∧ decode cX12_lawWord 52 = .ok (.iconst 0, 1) ∧ decode cX12_lawWord 53 = .ok (.invokestatic 135, 3) ∧ True := dkl_ok (c := cX12_lawWord) [(.aload_n 0, 1), (.bipush 115, 2), (.bipush 97, 2), (.bipush 109, 2), (.bipush 101, 2), (.iconst 0, 1), (.iconst 0, 1), (.invokestatic 135, 3)] 42 (by decide +kernel)
theorem dX12_lawWord_42 : decode cX12_lawWord 42 = .ok (.aload_n 0, 1) := eX12_lawWord_42.1
theorem dX12_lawWord_43 : decode cX12_lawWord 43 = .ok (.bipush 115, 2) := eX12_lawWord_42.2.1
theorem dX12_lawWord_45 : decode cX12_lawWord 45 = .ok (.bipush 97, 2) := eX12_lawWord_42.2.2.1
theorem dX12_lawWord_47 : decode cX12_lawWord 47 = .ok (.bipush 109, 2) := eX12_lawWord_42.2.2.2.1
theorem dX12_lawWord_49 : decode cX12_lawWord 49 = .ok (.bipush 101, 2) := eX12_lawWord_42.2.2.2.2.1
theorem dX12_lawWord_51 : decode cX12_lawWord 51 = .ok (.iconst 0, 1) := eX12_lawWord_42.2.2.2.2.2.1
theorem dX12_lawWord_52 : decode cX12_lawWord 52 = .ok (.iconst 0, 1) := eX12_lawWord_42.2.2.2.2.2.2.1
theorem dX12_lawWord_53 : decode cX12_lawWord 53 = .ok (.invokestatic 135, 3) := eX12_lawWord_42.2.2.2.2.2.2.2.1
theorem eX12_lawWord_56 : decode cX12_lawWord 56 = .ok (.invokevirtual 139, 3) ∧ decode cX12_lawWord 59 = .ok (.ifCond .eq 7, 3) ∧ decode cX12_lawWord 62 = .ok (.iconst 2, 1) ∧ decode cX12_lawWord 63 = .ok (.goto 4, 3) ∧ decode cX12_lawWord 66 = .ok (.iconst (-1), 1) ∧ decode cX12_lawWord 67 = .ok (.ireturn, 1) ∧ True := dkl_ok (c := cX12_lawWord) [(.invokevirtual 139, 3), (.ifCond .eq 7, 3), (.iconst 2, 1), (.goto 4, 3), (.iconst (-1), 1), (.ireturn, 1)] 56 (by decide +kernel)
theorem dX12_lawWord_56 : decode cX12_lawWord 56 = .ok (.invokevirtual 139, 3) := eX12_lawWord_56.1
theorem dX12_lawWord_59 : decode cX12_lawWord 59 = .ok (.ifCond .eq 7, 3) := eX12_lawWord_56.2.1
theorem dX12_lawWord_62 : decode cX12_lawWord 62 = .ok (.iconst 2, 1) := eX12_lawWord_56.2.2.1
theorem dX12_lawWord_63 : decode cX12_lawWord 63 = .ok (.goto 4, 3) := eX12_lawWord_56.2.2.2.1
theorem dX12_lawWord_66 : decode cX12_lawWord 66 = .ok (.iconst (-1), 1) := eX12_lawWord_56.2.2.2.2.1
theorem dX12_lawWord_67 : decode cX12_lawWord 67 = .ok (.ireturn, 1) := eX12_lawWord_56.2.2.2.2.2.1
theorem eX12_stepWord_0 : decode cX12_stepWord 0 = .ok (.aload_n 0, 1) ∧ decode cX12_stepWord 1 = .ok (.bipush 116, 2) ∧ decode cX12_stepWord 3 = .ok (.bipush 117, 2) ∧ decode cX12_stepWord 5 = .ok (.bipush 114, 2) ∧ decode cX12_stepWord 7 = .ok (.bipush 110, 2) ∧ decode cX12_stepWord 9 = .ok (.iconst 0, 1) ∧ decode cX12_stepWord 10 = .ok (.iconst 0, 1) ∧ decode cX12_stepWord 11 = .ok (.invokestatic 135, 3) ∧ True := dkl_ok (c := cX12_stepWord) [(.aload_n 0, 1), (.bipush 116, 2), (.bipush 117, 2), (.bipush 114, 2), (.bipush 110, 2), (.iconst 0, 1), (.iconst 0, 1), (.invokestatic 135, 3)] 0 (by decide +kernel)
theorem dX12_stepWord_0 : decode cX12_stepWord 0 = .ok (.aload_n 0, 1) := eX12_stepWord_0.1
theorem dX12_stepWord_1 : decode cX12_stepWord 1 = .ok (.bipush 116, 2) := eX12_stepWord_0.2.1
theorem dX12_stepWord_3 : decode cX12_stepWord 3 = .ok (.bipush 117, 2) := eX12_stepWord_0.2.2.1
theorem dX12_stepWord_5 : decode cX12_stepWord 5 = .ok (.bipush 114, 2) := eX12_stepWord_0.2.2.2.1
theorem dX12_stepWord_7 : decode cX12_stepWord 7 = .ok (.bipush 110, 2) := eX12_stepWord_0.2.2.2.2.1
theorem dX12_stepWord_9 : decode cX12_stepWord 9 = .ok (.iconst 0, 1) := eX12_stepWord_0.2.2.2.2.2.1
theorem dX12_stepWord_10 : decode cX12_stepWord 10 = .ok (.iconst 0, 1) := eX12_stepWord_0.2.2.2.2.2.2.1
theorem dX12_stepWord_11 : decode cX12_stepWord 11 = .ok (.invokestatic 135, 3) := eX12_stepWord_0.2.2.2.2.2.2.2.1
theorem eX12_stepWord_14 : decode cX12_stepWord 14 = .ok (.invokevirtual 139, 3) ∧ decode cX12_stepWord 17 = .ok (.ifCond .eq 5, 3) ∧ decode cX12_stepWord 20 = .ok (.iconst 0, 1) ∧ decode cX12_stepWord 21 = .ok (.ireturn, 1) ∧ decode cX12_stepWord 22 = .ok (.aload_n 0, 1) ∧ decode cX12_stepWord 23 = .ok (.invokevirtual 143, 3) ∧ decode cX12_stepWord 26 = .ok (.ifCond .eq 5, 3) ∧ decode cX12_stepWord 29 = .ok (.iconst 1, 1) ∧ True := dkl_ok (c := cX12_stepWord) [(.invokevirtual 139, 3), (.ifCond .eq 5, 3), (.iconst 0, 1), (.ireturn, 1), (.aload_n 0, 1), (.invokevirtual 143, 3), (.ifCond .eq 5, 3), (.iconst 1, 1)] 14 (by decide +kernel)
theorem dX12_stepWord_14 : decode cX12_stepWord 14 = .ok (.invokevirtual 139, 3) := eX12_stepWord_14.1
theorem dX12_stepWord_17 : decode cX12_stepWord 17 = .ok (.ifCond .eq 5, 3) := eX12_stepWord_14.2.1
theorem dX12_stepWord_20 : decode cX12_stepWord 20 = .ok (.iconst 0, 1) := eX12_stepWord_14.2.2.1
theorem dX12_stepWord_21 : decode cX12_stepWord 21 = .ok (.ireturn, 1) := eX12_stepWord_14.2.2.2.1
theorem dX12_stepWord_22 : decode cX12_stepWord 22 = .ok (.aload_n 0, 1) := eX12_stepWord_14.2.2.2.2.1
theorem dX12_stepWord_23 : decode cX12_stepWord 23 = .ok (.invokevirtual 143, 3) := eX12_stepWord_14.2.2.2.2.2.1
theorem dX12_stepWord_26 : decode cX12_stepWord 26 = .ok (.ifCond .eq 5, 3) := eX12_stepWord_14.2.2.2.2.2.2.1
theorem dX12_stepWord_29 : decode cX12_stepWord 29 = .ok (.iconst 1, 1) := eX12_stepWord_14.2.2.2.2.2.2.2.1
theorem eX12_stepWord_30 : decode cX12_stepWord 30 = .ok (.ireturn, 1) ∧ decode cX12_stepWord 31 = .ok (.aload_n 0, 1) ∧ decode cX12_stepWord 32 = .ok (.invokevirtual 147, 3) ∧ decode cX12_stepWord 35 = .ok (.ifCond .eq 5, 3) ∧ decode cX12_stepWord 38 = .ok (.iconst 2, 1) ∧ decode cX12_stepWord 39 = .ok (.ireturn, 1) ∧ decode cX12_stepWord 40 = .ok (.aload_n 0, 1) ∧ decode cX12_stepWord 41 = .ok (.bipush 119, 2) ∧ True := dkl_ok (c := cX12_stepWord) [(.ireturn, 1), (.aload_n 0, 1), (.invokevirtual 147, 3), (.ifCond .eq 5, 3), (.iconst 2, 1), (.ireturn, 1), (.aload_n 0, 1), (.bipush 119, 2)] 30 (by decide +kernel)
theorem dX12_stepWord_30 : decode cX12_stepWord 30 = .ok (.ireturn, 1) := eX12_stepWord_30.1
theorem dX12_stepWord_31 : decode cX12_stepWord 31 = .ok (.aload_n 0, 1) := eX12_stepWord_30.2.1
theorem dX12_stepWord_32 : decode cX12_stepWord 32 = .ok (.invokevirtual 147, 3) := eX12_stepWord_30.2.2.1
theorem dX12_stepWord_35 : decode cX12_stepWord 35 = .ok (.ifCond .eq 5, 3) := eX12_stepWord_30.2.2.2.1
theorem dX12_stepWord_38 : decode cX12_stepWord 38 = .ok (.iconst 2, 1) := eX12_stepWord_30.2.2.2.2.1
theorem dX12_stepWord_39 : decode cX12_stepWord 39 = .ok (.ireturn, 1) := eX12_stepWord_30.2.2.2.2.2.1
theorem dX12_stepWord_40 : decode cX12_stepWord 40 = .ok (.aload_n 0, 1) := eX12_stepWord_30.2.2.2.2.2.2.1
theorem dX12_stepWord_41 : decode cX12_stepWord 41 = .ok (.bipush 119, 2) := eX12_stepWord_30.2.2.2.2.2.2.2.1
theorem eX12_stepWord_43 : decode cX12_stepWord 43 = .ok (.bipush 104, 2) ∧ decode cX12_stepWord 45 = .ok (.bipush 101, 2) ∧ decode cX12_stepWord 47 = .ok (.bipush 110, 2) ∧ decode cX12_stepWord 49 = .ok (.iconst 0, 1) ∧ decode cX12_stepWord 50 = .ok (.iconst 0, 1) ∧ decode cX12_stepWord 51 = .ok (.invokestatic 135, 3) ∧ decode cX12_stepWord 54 = .ok (.invokevirtual 139, 3) ∧ decode cX12_stepWord 57 = .ok (.ifCond .eq 5, 3) ∧ True := dkl_ok (c := cX12_stepWord) [(.bipush 104, 2), (.bipush 101, 2), (.bipush 110, 2), (.iconst 0, 1), (.iconst 0, 1), (.invokestatic 135, 3), (.invokevirtual 139, 3), (.ifCond .eq 5, 3)] 43 (by decide +kernel)
theorem dX12_stepWord_43 : decode cX12_stepWord 43 = .ok (.bipush 104, 2) := eX12_stepWord_43.1
theorem dX12_stepWord_45 : decode cX12_stepWord 45 = .ok (.bipush 101, 2) := eX12_stepWord_43.2.1
theorem dX12_stepWord_47 : decode cX12_stepWord 47 = .ok (.bipush 110, 2) := eX12_stepWord_43.2.2.1
theorem dX12_stepWord_49 : decode cX12_stepWord 49 = .ok (.iconst 0, 1) := eX12_stepWord_43.2.2.2.1
theorem dX12_stepWord_50 : decode cX12_stepWord 50 = .ok (.iconst 0, 1) := eX12_stepWord_43.2.2.2.2.1
theorem dX12_stepWord_51 : decode cX12_stepWord 51 = .ok (.invokestatic 135, 3) := eX12_stepWord_43.2.2.2.2.2.1
theorem dX12_stepWord_54 : decode cX12_stepWord 54 = .ok (.invokevirtual 139, 3) := eX12_stepWord_43.2.2.2.2.2.2.1
theorem dX12_stepWord_57 : decode cX12_stepWord 57 = .ok (.ifCond .eq 5, 3) := eX12_stepWord_43.2.2.2.2.2.2.2.1
theorem eX12_stepWord_60 : decode cX12_stepWord 60 = .ok (.iconst 3, 1) ∧ decode cX12_stepWord 61 = .ok (.ireturn, 1) ∧ decode cX12_stepWord 62 = .ok (.aload_n 0, 1) ∧ decode cX12_stepWord 63 = .ok (.bipush 108, 2) ∧ decode cX12_stepWord 65 = .ok (.bipush 111, 2) ∧ decode cX12_stepWord 67 = .ok (.bipush 111, 2) ∧ decode cX12_stepWord 69 = .ok (.bipush 112, 2) ∧ decode cX12_stepWord 71 = .ok (.iconst 0, 1) ∧ True := dkl_ok (c := cX12_stepWord) [(.iconst 3, 1), (.ireturn, 1), (.aload_n 0, 1), (.bipush 108, 2), (.bipush 111, 2), (.bipush 111, 2), (.bipush 112, 2), (.iconst 0, 1)] 60 (by decide +kernel)
theorem dX12_stepWord_60 : decode cX12_stepWord 60 = .ok (.iconst 3, 1) := eX12_stepWord_60.1
theorem dX12_stepWord_61 : decode cX12_stepWord 61 = .ok (.ireturn, 1) := eX12_stepWord_60.2.1
theorem dX12_stepWord_62 : decode cX12_stepWord 62 = .ok (.aload_n 0, 1) := eX12_stepWord_60.2.2.1
theorem dX12_stepWord_63 : decode cX12_stepWord 63 = .ok (.bipush 108, 2) := eX12_stepWord_60.2.2.2.1
theorem dX12_stepWord_65 : decode cX12_stepWord 65 = .ok (.bipush 111, 2) := eX12_stepWord_60.2.2.2.2.1
theorem dX12_stepWord_67 : decode cX12_stepWord 67 = .ok (.bipush 111, 2) := eX12_stepWord_60.2.2.2.2.2.1
theorem dX12_stepWord_69 : decode cX12_stepWord 69 = .ok (.bipush 112, 2) := eX12_stepWord_60.2.2.2.2.2.2.1
theorem dX12_stepWord_71 : decode cX12_stepWord 71 = .ok (.iconst 0, 1) := eX12_stepWord_60.2.2.2.2.2.2.2.1
theorem eX12_stepWord_72 : decode cX12_stepWord 72 = .ok (.iconst 0, 1) ∧ decode cX12_stepWord 73 = .ok (.invokestatic 135, 3) ∧ decode cX12_stepWord 76 = .ok (.invokevirtual 139, 3) ∧ decode cX12_stepWord 79 = .ok (.ifCond .eq 5, 3) ∧ decode cX12_stepWord 82 = .ok (.iconst 4, 1) ∧ decode cX12_stepWord 83 = .ok (.ireturn, 1) ∧ decode cX12_stepWord 84 = .ok (.aload_n 0, 1) ∧ decode cX12_stepWord 85 = .ok (.bipush 115, 2) ∧ True := dkl_ok (c := cX12_stepWord) [(.iconst 0, 1), (.invokestatic 135, 3), (.invokevirtual 139, 3), (.ifCond .eq 5, 3), (.iconst 4, 1), (.ireturn, 1), (.aload_n 0, 1), (.bipush 115, 2)] 72 (by decide +kernel)
theorem dX12_stepWord_72 : decode cX12_stepWord 72 = .ok (.iconst 0, 1) := eX12_stepWord_72.1
theorem dX12_stepWord_73 : decode cX12_stepWord 73 = .ok (.invokestatic 135, 3) := eX12_stepWord_72.2.1
theorem dX12_stepWord_76 : decode cX12_stepWord 76 = .ok (.invokevirtual 139, 3) := eX12_stepWord_72.2.2.1
theorem dX12_stepWord_79 : decode cX12_stepWord 79 = .ok (.ifCond .eq 5, 3) := eX12_stepWord_72.2.2.2.1
theorem dX12_stepWord_82 : decode cX12_stepWord 82 = .ok (.iconst 4, 1) := eX12_stepWord_72.2.2.2.2.1
theorem dX12_stepWord_83 : decode cX12_stepWord 83 = .ok (.ireturn, 1) := eX12_stepWord_72.2.2.2.2.2.1
theorem dX12_stepWord_84 : decode cX12_stepWord 84 = .ok (.aload_n 0, 1) := eX12_stepWord_72.2.2.2.2.2.2.1
theorem dX12_stepWord_85 : decode cX12_stepWord 85 = .ok (.bipush 115, 2) := eX12_stepWord_72.2.2.2.2.2.2.2.1
theorem eX12_stepWord_87 : decode cX12_stepWord 87 = .ok (.bipush 116, 2) ∧ decode cX12_stepWord 89 = .ok (.bipush 111, 2) ∧ decode cX12_stepWord 91 = .ok (.bipush 112, 2) ∧ decode cX12_stepWord 93 = .ok (.iconst 0, 1) ∧ decode cX12_stepWord 94 = .ok (.iconst 0, 1) ∧ decode cX12_stepWord 95 = .ok (.invokestatic 135, 3) ∧ decode cX12_stepWord 98 = .ok (.invokevirtual 139, 3) ∧ decode cX12_stepWord 101 = .ok (.ifCond .eq 7, 3) ∧ True := dkl_ok (c := cX12_stepWord) [(.bipush 116, 2), (.bipush 111, 2), (.bipush 112, 2), (.iconst 0, 1), (.iconst 0, 1), (.invokestatic 135, 3), (.invokevirtual 139, 3), (.ifCond .eq 7, 3)] 87 (by decide +kernel)
theorem dX12_stepWord_87 : decode cX12_stepWord 87 = .ok (.bipush 116, 2) := eX12_stepWord_87.1
theorem dX12_stepWord_89 : decode cX12_stepWord 89 = .ok (.bipush 111, 2) := eX12_stepWord_87.2.1
theorem dX12_stepWord_91 : decode cX12_stepWord 91 = .ok (.bipush 112, 2) := eX12_stepWord_87.2.2.1
theorem dX12_stepWord_93 : decode cX12_stepWord 93 = .ok (.iconst 0, 1) := eX12_stepWord_87.2.2.2.1
theorem dX12_stepWord_94 : decode cX12_stepWord 94 = .ok (.iconst 0, 1) := eX12_stepWord_87.2.2.2.2.1
theorem dX12_stepWord_95 : decode cX12_stepWord 95 = .ok (.invokestatic 135, 3) := eX12_stepWord_87.2.2.2.2.2.1
theorem dX12_stepWord_98 : decode cX12_stepWord 98 = .ok (.invokevirtual 139, 3) := eX12_stepWord_87.2.2.2.2.2.2.1
theorem dX12_stepWord_101 : decode cX12_stepWord 101 = .ok (.ifCond .eq 7, 3) := eX12_stepWord_87.2.2.2.2.2.2.2.1
theorem eX12_stepWord_104 : decode cX12_stepWord 104 = .ok (.iconst 5, 1) ∧ decode cX12_stepWord 105 = .ok (.goto 4, 3) ∧ decode cX12_stepWord 108 = .ok (.iconst (-1), 1) ∧ decode cX12_stepWord 109 = .ok (.ireturn, 1) ∧ True := dkl_ok (c := cX12_stepWord) [(.iconst 5, 1), (.goto 4, 3), (.iconst (-1), 1), (.ireturn, 1)] 104 (by decide +kernel)
theorem dX12_stepWord_104 : decode cX12_stepWord 104 = .ok (.iconst 5, 1) := eX12_stepWord_104.1
theorem dX12_stepWord_105 : decode cX12_stepWord 105 = .ok (.goto 4, 3) := eX12_stepWord_104.2.1
theorem dX12_stepWord_108 : decode cX12_stepWord 108 = .ok (.iconst (-1), 1) := eX12_stepWord_104.2.2.1
theorem dX12_stepWord_109 : decode cX12_stepWord 109 = .ok (.ireturn, 1) := eX12_stepWord_104.2.2.2.1
theorem eX12_testWord_0 : decode cX12_testWord 0 = .ok (.aload_n 0, 1) ∧ decode cX12_testWord 1 = .ok (.bipush 99, 2) ∧ decode cX12_testWord 3 = .ok (.bipush 97, 2) ∧ decode cX12_testWord 5 = .ok (.bipush 114, 2) ∧ decode cX12_testWord 7 = .ok (.bipush 100, 2) ∧ decode cX12_testWord 9 = .ok (.bipush 115, 2) ∧ decode cX12_testWord 11 = .ok (.iconst 0, 1) ∧ decode cX12_testWord 12 = .ok (.invokestatic 135, 3) ∧ True := dkl_ok (c := cX12_testWord) [(.aload_n 0, 1), (.bipush 99, 2), (.bipush 97, 2), (.bipush 114, 2), (.bipush 100, 2), (.bipush 115, 2), (.iconst 0, 1), (.invokestatic 135, 3)] 0 (by decide +kernel)
theorem dX12_testWord_0 : decode cX12_testWord 0 = .ok (.aload_n 0, 1) := eX12_testWord_0.1
theorem dX12_testWord_1 : decode cX12_testWord 1 = .ok (.bipush 99, 2) := eX12_testWord_0.2.1
theorem dX12_testWord_3 : decode cX12_testWord 3 = .ok (.bipush 97, 2) := eX12_testWord_0.2.2.1
theorem dX12_testWord_5 : decode cX12_testWord 5 = .ok (.bipush 114, 2) := eX12_testWord_0.2.2.2.1
theorem dX12_testWord_7 : decode cX12_testWord 7 = .ok (.bipush 100, 2) := eX12_testWord_0.2.2.2.2.1
theorem dX12_testWord_9 : decode cX12_testWord 9 = .ok (.bipush 115, 2) := eX12_testWord_0.2.2.2.2.2.1
theorem dX12_testWord_11 : decode cX12_testWord 11 = .ok (.iconst 0, 1) := eX12_testWord_0.2.2.2.2.2.2.1
theorem dX12_testWord_12 : decode cX12_testWord 12 = .ok (.invokestatic 135, 3) := eX12_testWord_0.2.2.2.2.2.2.2.1
theorem eX12_testWord_15 : decode cX12_testWord 15 = .ok (.invokevirtual 139, 3) ∧ decode cX12_testWord 18 = .ok (.ifCond .eq 5, 3) ∧ decode cX12_testWord 21 = .ok (.iconst 0, 1) ∧ decode cX12_testWord 22 = .ok (.ireturn, 1) ∧ decode cX12_testWord 23 = .ok (.aload_n 0, 1) ∧ decode cX12_testWord 24 = .ok (.bipush 104, 2) ∧ decode cX12_testWord 26 = .ok (.bipush 101, 2) ∧ decode cX12_testWord 28 = .ok (.bipush 97, 2) ∧ True := dkl_ok (c := cX12_testWord) [(.invokevirtual 139, 3), (.ifCond .eq 5, 3), (.iconst 0, 1), (.ireturn, 1), (.aload_n 0, 1), (.bipush 104, 2), (.bipush 101, 2), (.bipush 97, 2)] 15 (by decide +kernel)
theorem dX12_testWord_15 : decode cX12_testWord 15 = .ok (.invokevirtual 139, 3) := eX12_testWord_15.1
theorem dX12_testWord_18 : decode cX12_testWord 18 = .ok (.ifCond .eq 5, 3) := eX12_testWord_15.2.1
theorem dX12_testWord_21 : decode cX12_testWord 21 = .ok (.iconst 0, 1) := eX12_testWord_15.2.2.1
theorem dX12_testWord_22 : decode cX12_testWord 22 = .ok (.ireturn, 1) := eX12_testWord_15.2.2.2.1
theorem dX12_testWord_23 : decode cX12_testWord 23 = .ok (.aload_n 0, 1) := eX12_testWord_15.2.2.2.2.1
theorem dX12_testWord_24 : decode cX12_testWord 24 = .ok (.bipush 104, 2) := eX12_testWord_15.2.2.2.2.2.1
theorem dX12_testWord_26 : decode cX12_testWord 26 = .ok (.bipush 101, 2) := eX12_testWord_15.2.2.2.2.2.2.1
theorem dX12_testWord_28 : decode cX12_testWord 28 = .ok (.bipush 97, 2) := eX12_testWord_15.2.2.2.2.2.2.2.1
theorem eX12_testWord_30 : decode cX12_testWord 30 = .ok (.bipush 112, 2) ∧ decode cX12_testWord 32 = .ok (.iconst 0, 1) ∧ decode cX12_testWord 33 = .ok (.iconst 0, 1) ∧ decode cX12_testWord 34 = .ok (.invokestatic 135, 3) ∧ decode cX12_testWord 37 = .ok (.invokevirtual 139, 3) ∧ decode cX12_testWord 40 = .ok (.ifCond .eq 5, 3) ∧ decode cX12_testWord 43 = .ok (.iconst 1, 1) ∧ decode cX12_testWord 44 = .ok (.ireturn, 1) ∧ True := dkl_ok (c := cX12_testWord) [(.bipush 112, 2), (.iconst 0, 1), (.iconst 0, 1), (.invokestatic 135, 3), (.invokevirtual 139, 3), (.ifCond .eq 5, 3), (.iconst 1, 1), (.ireturn, 1)] 30 (by decide +kernel)
theorem dX12_testWord_30 : decode cX12_testWord 30 = .ok (.bipush 112, 2) := eX12_testWord_30.1
theorem dX12_testWord_32 : decode cX12_testWord 32 = .ok (.iconst 0, 1) := eX12_testWord_30.2.1
theorem dX12_testWord_33 : decode cX12_testWord 33 = .ok (.iconst 0, 1) := eX12_testWord_30.2.2.1
theorem dX12_testWord_34 : decode cX12_testWord 34 = .ok (.invokestatic 135, 3) := eX12_testWord_30.2.2.2.1
theorem dX12_testWord_37 : decode cX12_testWord 37 = .ok (.invokevirtual 139, 3) := eX12_testWord_30.2.2.2.2.1
theorem dX12_testWord_40 : decode cX12_testWord 40 = .ok (.ifCond .eq 5, 3) := eX12_testWord_30.2.2.2.2.2.1
theorem dX12_testWord_43 : decode cX12_testWord 43 = .ok (.iconst 1, 1) := eX12_testWord_30.2.2.2.2.2.2.1
theorem dX12_testWord_44 : decode cX12_testWord 44 = .ok (.ireturn, 1) := eX12_testWord_30.2.2.2.2.2.2.2.1
theorem eX12_testWord_45 : decode cX12_testWord 45 = .ok (.aload_n 0, 1) ∧ decode cX12_testWord 46 = .ok (.bipush 115, 2) ∧ decode cX12_testWord 48 = .ok (.bipush 104, 2) ∧ decode cX12_testWord 50 = .ok (.bipush 111, 2) ∧ decode cX12_testWord 52 = .ok (.bipush 119, 2) ∧ decode cX12_testWord 54 = .ok (.bipush 110, 2) ∧ decode cX12_testWord 56 = .ok (.iconst 0, 1) ∧ decode cX12_testWord 57 = .ok (.invokestatic 135, 3) ∧ True := dkl_ok (c := cX12_testWord) [(.aload_n 0, 1), (.bipush 115, 2), (.bipush 104, 2), (.bipush 111, 2), (.bipush 119, 2), (.bipush 110, 2), (.iconst 0, 1), (.invokestatic 135, 3)] 45 (by decide +kernel)
theorem dX12_testWord_45 : decode cX12_testWord 45 = .ok (.aload_n 0, 1) := eX12_testWord_45.1
theorem dX12_testWord_46 : decode cX12_testWord 46 = .ok (.bipush 115, 2) := eX12_testWord_45.2.1
theorem dX12_testWord_48 : decode cX12_testWord 48 = .ok (.bipush 104, 2) := eX12_testWord_45.2.2.1
theorem dX12_testWord_50 : decode cX12_testWord 50 = .ok (.bipush 111, 2) := eX12_testWord_45.2.2.2.1
theorem dX12_testWord_52 : decode cX12_testWord 52 = .ok (.bipush 119, 2) := eX12_testWord_45.2.2.2.2.1
theorem dX12_testWord_54 : decode cX12_testWord 54 = .ok (.bipush 110, 2) := eX12_testWord_45.2.2.2.2.2.1
theorem dX12_testWord_56 : decode cX12_testWord 56 = .ok (.iconst 0, 1) := eX12_testWord_45.2.2.2.2.2.2.1
theorem dX12_testWord_57 : decode cX12_testWord 57 = .ok (.invokestatic 135, 3) := eX12_testWord_45.2.2.2.2.2.2.2.1
theorem eX12_testWord_60 : decode cX12_testWord 60 = .ok (.invokevirtual 139, 3) ∧ decode cX12_testWord 63 = .ok (.ifCond .eq 5, 3) ∧ decode cX12_testWord 66 = .ok (.iconst 2, 1) ∧ decode cX12_testWord 67 = .ok (.ireturn, 1) ∧ decode cX12_testWord 68 = .ok (.aload_n 0, 1) ∧ decode cX12_testWord 69 = .ok (.bipush 119, 2) ∧ decode cX12_testWord 71 = .ok (.bipush 111, 2) ∧ decode cX12_testWord 73 = .ok (.bipush 110, 2) ∧ True := dkl_ok (c := cX12_testWord) [(.invokevirtual 139, 3), (.ifCond .eq 5, 3), (.iconst 2, 1), (.ireturn, 1), (.aload_n 0, 1), (.bipush 119, 2), (.bipush 111, 2), (.bipush 110, 2)] 60 (by decide +kernel)
theorem dX12_testWord_60 : decode cX12_testWord 60 = .ok (.invokevirtual 139, 3) := eX12_testWord_60.1
theorem dX12_testWord_63 : decode cX12_testWord 63 = .ok (.ifCond .eq 5, 3) := eX12_testWord_60.2.1
theorem dX12_testWord_66 : decode cX12_testWord 66 = .ok (.iconst 2, 1) := eX12_testWord_60.2.2.1
theorem dX12_testWord_67 : decode cX12_testWord 67 = .ok (.ireturn, 1) := eX12_testWord_60.2.2.2.1
theorem dX12_testWord_68 : decode cX12_testWord 68 = .ok (.aload_n 0, 1) := eX12_testWord_60.2.2.2.2.1
theorem dX12_testWord_69 : decode cX12_testWord 69 = .ok (.bipush 119, 2) := eX12_testWord_60.2.2.2.2.2.1
theorem dX12_testWord_71 : decode cX12_testWord 71 = .ok (.bipush 111, 2) := eX12_testWord_60.2.2.2.2.2.2.1
theorem dX12_testWord_73 : decode cX12_testWord 73 = .ok (.bipush 110, 2) := eX12_testWord_60.2.2.2.2.2.2.2.1
theorem eX12_testWord_75 : decode cX12_testWord 75 = .ok (.iconst 0, 1) ∧ decode cX12_testWord 76 = .ok (.iconst 0, 1) ∧ decode cX12_testWord 77 = .ok (.iconst 0, 1) ∧ decode cX12_testWord 78 = .ok (.invokestatic 135, 3) ∧ decode cX12_testWord 81 = .ok (.invokevirtual 139, 3) ∧ decode cX12_testWord 84 = .ok (.ifCond .eq 7, 3) ∧ decode cX12_testWord 87 = .ok (.iconst 3, 1) ∧ decode cX12_testWord 88 = .ok (.goto 4, 3) ∧ True := dkl_ok (c := cX12_testWord) [(.iconst 0, 1), (.iconst 0, 1), (.iconst 0, 1), (.invokestatic 135, 3), (.invokevirtual 139, 3), (.ifCond .eq 7, 3), (.iconst 3, 1), (.goto 4, 3)] 75 (by decide +kernel)
theorem dX12_testWord_75 : decode cX12_testWord 75 = .ok (.iconst 0, 1) := eX12_testWord_75.1
theorem dX12_testWord_76 : decode cX12_testWord 76 = .ok (.iconst 0, 1) := eX12_testWord_75.2.1
theorem dX12_testWord_77 : decode cX12_testWord 77 = .ok (.iconst 0, 1) := eX12_testWord_75.2.2.1
theorem dX12_testWord_78 : decode cX12_testWord 78 = .ok (.invokestatic 135, 3) := eX12_testWord_75.2.2.2.1
theorem dX12_testWord_81 : decode cX12_testWord 81 = .ok (.invokevirtual 139, 3) := eX12_testWord_75.2.2.2.2.1
theorem dX12_testWord_84 : decode cX12_testWord 84 = .ok (.ifCond .eq 7, 3) := eX12_testWord_75.2.2.2.2.2.1
theorem dX12_testWord_87 : decode cX12_testWord 87 = .ok (.iconst 3, 1) := eX12_testWord_75.2.2.2.2.2.2.1
theorem dX12_testWord_88 : decode cX12_testWord 88 = .ok (.goto 4, 3) := eX12_testWord_75.2.2.2.2.2.2.2.1
theorem eX12_testWord_91 : decode cX12_testWord 91 = .ok (.iconst (-1), 1) ∧ decode cX12_testWord 92 = .ok (.ireturn, 1) ∧ True := dkl_ok (c := cX12_testWord) [(.iconst (-1), 1), (.ireturn, 1)] 91 (by decide +kernel)
theorem dX12_testWord_91 : decode cX12_testWord 91 = .ok (.iconst (-1), 1) := eX12_testWord_91.1
theorem dX12_testWord_92 : decode cX12_testWord 92 = .ok (.ireturn, 1) := eX12_testWord_91.2.1
theorem eX12_isEnd_0 : decode cX12_isEnd 0 = .ok (.aload_n 0, 1) ∧ decode cX12_isEnd 1 = .ok (.bipush 101, 2) ∧ decode cX12_isEnd 3 = .ok (.bipush 110, 2) ∧ decode cX12_isEnd 5 = .ok (.bipush 100, 2) ∧ decode cX12_isEnd 7 = .ok (.iconst 0, 1) ∧ decode cX12_isEnd 8 = .ok (.iconst 0, 1) ∧ decode cX12_isEnd 9 = .ok (.iconst 0, 1) ∧ decode cX12_isEnd 10 = .ok (.invokestatic 135, 3) ∧ True := dkl_ok (c := cX12_isEnd) [(.aload_n 0, 1), (.bipush 101, 2), (.bipush 110, 2), (.bipush 100, 2), (.iconst 0, 1), (.iconst 0, 1), (.iconst 0, 1), (.invokestatic 135, 3)] 0 (by decide +kernel)
theorem dX12_isEnd_0 : decode cX12_isEnd 0 = .ok (.aload_n 0, 1) := eX12_isEnd_0.1
theorem dX12_isEnd_1 : decode cX12_isEnd 1 = .ok (.bipush 101, 2) := eX12_isEnd_0.2.1
theorem dX12_isEnd_3 : decode cX12_isEnd 3 = .ok (.bipush 110, 2) := eX12_isEnd_0.2.2.1
theorem dX12_isEnd_5 : decode cX12_isEnd 5 = .ok (.bipush 100, 2) := eX12_isEnd_0.2.2.2.1
theorem dX12_isEnd_7 : decode cX12_isEnd 7 = .ok (.iconst 0, 1) := eX12_isEnd_0.2.2.2.2.1
theorem dX12_isEnd_8 : decode cX12_isEnd 8 = .ok (.iconst 0, 1) := eX12_isEnd_0.2.2.2.2.2.1
theorem dX12_isEnd_9 : decode cX12_isEnd 9 = .ok (.iconst 0, 1) := eX12_isEnd_0.2.2.2.2.2.2.1
theorem dX12_isEnd_10 : decode cX12_isEnd 10 = .ok (.invokestatic 135, 3) := eX12_isEnd_0.2.2.2.2.2.2.2.1
theorem eX12_isEnd_13 : decode cX12_isEnd 13 = .ok (.invokevirtual 139, 3) ∧ decode cX12_isEnd 16 = .ok (.ireturn, 1) ∧ True := dkl_ok (c := cX12_isEnd) [(.invokevirtual 139, 3), (.ireturn, 1)] 13 (by decide +kernel)
theorem dX12_isEnd_13 : decode cX12_isEnd 13 = .ok (.invokevirtual 139, 3) := eX12_isEnd_13.1
theorem dX12_isEnd_16 : decode cX12_isEnd 16 = .ok (.ireturn, 1) := eX12_isEnd_13.2.1
theorem eX12_isKept_0 : decode cX12_isKept 0 = .ok (.aload_n 0, 1) ∧ decode cX12_isKept 1 = .ok (.invokevirtual 150, 3) ∧ decode cX12_isKept 4 = .ok (.ifCond .ne 52, 3) ∧ decode cX12_isKept 7 = .ok (.aload_n 0, 1) ∧ decode cX12_isKept 8 = .ok (.invokevirtual 153, 3) ∧ decode cX12_isKept 11 = .ok (.ifCond .ne 45, 3) ∧ decode cX12_isKept 14 = .ok (.aload_n 0, 1) ∧ decode cX12_isKept 15 = .ok (.invokevirtual 156, 3) ∧ True := dkl_ok (c := cX12_isKept) [(.aload_n 0, 1), (.invokevirtual 150, 3), (.ifCond .ne 52, 3), (.aload_n 0, 1), (.invokevirtual 153, 3), (.ifCond .ne 45, 3), (.aload_n 0, 1), (.invokevirtual 156, 3)] 0 (by decide +kernel)
theorem dX12_isKept_0 : decode cX12_isKept 0 = .ok (.aload_n 0, 1) := eX12_isKept_0.1
theorem dX12_isKept_1 : decode cX12_isKept 1 = .ok (.invokevirtual 150, 3) := eX12_isKept_0.2.1
theorem dX12_isKept_4 : decode cX12_isKept 4 = .ok (.ifCond .ne 52, 3) := eX12_isKept_0.2.2.1
theorem dX12_isKept_7 : decode cX12_isKept 7 = .ok (.aload_n 0, 1) := eX12_isKept_0.2.2.2.1
theorem dX12_isKept_8 : decode cX12_isKept 8 = .ok (.invokevirtual 153, 3) := eX12_isKept_0.2.2.2.2.1
theorem dX12_isKept_11 : decode cX12_isKept 11 = .ok (.ifCond .ne 45, 3) := eX12_isKept_0.2.2.2.2.2.1
theorem dX12_isKept_14 : decode cX12_isKept 14 = .ok (.aload_n 0, 1) := eX12_isKept_0.2.2.2.2.2.2.1
theorem dX12_isKept_15 : decode cX12_isKept 15 = .ok (.invokevirtual 156, 3) := eX12_isKept_0.2.2.2.2.2.2.2.1
theorem eX12_isKept_18 : decode cX12_isKept 18 = .ok (.ifCond .ne 38, 3) ∧ decode cX12_isKept 21 = .ok (.aload_n 0, 1) ∧ decode cX12_isKept 22 = .ok (.invokevirtual 159, 3) ∧ decode cX12_isKept 25 = .ok (.ifCond .ne 31, 3) ∧ decode cX12_isKept 28 = .ok (.aload_n 0, 1) ∧ decode cX12_isKept 29 = .ok (.invokevirtual 162, 3) ∧ decode cX12_isKept 32 = .ok (.ifCond .ne 24, 3) ∧ decode cX12_isKept 35 = .ok (.aload_n 0, 1) ∧ True := dkl_ok (c := cX12_isKept) [(.ifCond .ne 38, 3), (.aload_n 0, 1), (.invokevirtual 159, 3), (.ifCond .ne 31, 3), (.aload_n 0, 1), (.invokevirtual 162, 3), (.ifCond .ne 24, 3), (.aload_n 0, 1)] 18 (by decide +kernel)
theorem dX12_isKept_18 : decode cX12_isKept 18 = .ok (.ifCond .ne 38, 3) := eX12_isKept_18.1
theorem dX12_isKept_21 : decode cX12_isKept 21 = .ok (.aload_n 0, 1) := eX12_isKept_18.2.1
theorem dX12_isKept_22 : decode cX12_isKept 22 = .ok (.invokevirtual 159, 3) := eX12_isKept_18.2.2.1
theorem dX12_isKept_25 : decode cX12_isKept 25 = .ok (.ifCond .ne 31, 3) := eX12_isKept_18.2.2.2.1
theorem dX12_isKept_28 : decode cX12_isKept 28 = .ok (.aload_n 0, 1) := eX12_isKept_18.2.2.2.2.1
theorem dX12_isKept_29 : decode cX12_isKept 29 = .ok (.invokevirtual 162, 3) := eX12_isKept_18.2.2.2.2.2.1
theorem dX12_isKept_32 : decode cX12_isKept 32 = .ok (.ifCond .ne 24, 3) := eX12_isKept_18.2.2.2.2.2.2.1
theorem dX12_isKept_35 : decode cX12_isKept 35 = .ok (.aload_n 0, 1) := eX12_isKept_18.2.2.2.2.2.2.2.1
theorem eX12_isKept_36 : decode cX12_isKept 36 = .ok (.invokevirtual 165, 3) ∧ decode cX12_isKept 39 = .ok (.ifCond .ne 17, 3) ∧ decode cX12_isKept 42 = .ok (.aload_n 0, 1) ∧ decode cX12_isKept 43 = .ok (.invokevirtual 168, 3) ∧ decode cX12_isKept 46 = .ok (.ifCond .ne 10, 3) ∧ decode cX12_isKept 49 = .ok (.aload_n 0, 1) ∧ decode cX12_isKept 50 = .ok (.invokevirtual 171, 3) ∧ decode cX12_isKept 53 = .ok (.ifCond .lt 5, 3) ∧ True := dkl_ok (c := cX12_isKept) [(.invokevirtual 165, 3), (.ifCond .ne 17, 3), (.aload_n 0, 1), (.invokevirtual 168, 3), (.ifCond .ne 10, 3), (.aload_n 0, 1), (.invokevirtual 171, 3), (.ifCond .lt 5, 3)] 36 (by decide +kernel)
theorem dX12_isKept_36 : decode cX12_isKept 36 = .ok (.invokevirtual 165, 3) := eX12_isKept_36.1
theorem dX12_isKept_39 : decode cX12_isKept 39 = .ok (.ifCond .ne 17, 3) := eX12_isKept_36.2.1
theorem dX12_isKept_42 : decode cX12_isKept 42 = .ok (.aload_n 0, 1) := eX12_isKept_36.2.2.1
theorem dX12_isKept_43 : decode cX12_isKept 43 = .ok (.invokevirtual 168, 3) := eX12_isKept_36.2.2.2.1
theorem dX12_isKept_46 : decode cX12_isKept 46 = .ok (.ifCond .ne 10, 3) := eX12_isKept_36.2.2.2.2.1
theorem dX12_isKept_49 : decode cX12_isKept 49 = .ok (.aload_n 0, 1) := eX12_isKept_36.2.2.2.2.2.1
theorem dX12_isKept_50 : decode cX12_isKept 50 = .ok (.invokevirtual 171, 3) := eX12_isKept_36.2.2.2.2.2.2.1
theorem dX12_isKept_53 : decode cX12_isKept 53 = .ok (.ifCond .lt 5, 3) := eX12_isKept_36.2.2.2.2.2.2.2.1
theorem eX12_isKept_56 : decode cX12_isKept 56 = .ok (.iconst 1, 1) ∧ decode cX12_isKept 57 = .ok (.ireturn, 1) ∧ decode cX12_isKept 58 = .ok (.aload_n 0, 1) ∧ decode cX12_isKept 59 = .ok (.invokevirtual 175, 3) ∧ decode cX12_isKept 62 = .ok (.ifCond .ge 17, 3) ∧ decode cX12_isKept 65 = .ok (.aload_n 0, 1) ∧ decode cX12_isKept 66 = .ok (.invokevirtual 178, 3) ∧ decode cX12_isKept 69 = .ok (.ifCond .ge 10, 3) ∧ True := dkl_ok (c := cX12_isKept) [(.iconst 1, 1), (.ireturn, 1), (.aload_n 0, 1), (.invokevirtual 175, 3), (.ifCond .ge 17, 3), (.aload_n 0, 1), (.invokevirtual 178, 3), (.ifCond .ge 10, 3)] 56 (by decide +kernel)
theorem dX12_isKept_56 : decode cX12_isKept 56 = .ok (.iconst 1, 1) := eX12_isKept_56.1
theorem dX12_isKept_57 : decode cX12_isKept 57 = .ok (.ireturn, 1) := eX12_isKept_56.2.1
theorem dX12_isKept_58 : decode cX12_isKept 58 = .ok (.aload_n 0, 1) := eX12_isKept_56.2.2.1
theorem dX12_isKept_59 : decode cX12_isKept 59 = .ok (.invokevirtual 175, 3) := eX12_isKept_56.2.2.2.1
theorem dX12_isKept_62 : decode cX12_isKept 62 = .ok (.ifCond .ge 17, 3) := eX12_isKept_56.2.2.2.2.1
theorem dX12_isKept_65 : decode cX12_isKept 65 = .ok (.aload_n 0, 1) := eX12_isKept_56.2.2.2.2.2.1
theorem dX12_isKept_66 : decode cX12_isKept 66 = .ok (.invokevirtual 178, 3) := eX12_isKept_56.2.2.2.2.2.2.1
theorem dX12_isKept_69 : decode cX12_isKept 69 = .ok (.ifCond .ge 10, 3) := eX12_isKept_56.2.2.2.2.2.2.2.1
theorem eX12_isKept_72 : decode cX12_isKept 72 = .ok (.aload_n 0, 1) ∧ decode cX12_isKept 73 = .ok (.invokevirtual 181, 3) ∧ decode cX12_isKept 76 = .ok (.ifCond .eq 7, 3) ∧ decode cX12_isKept 79 = .ok (.iconst 1, 1) ∧ decode cX12_isKept 80 = .ok (.goto 4, 3) ∧ decode cX12_isKept 83 = .ok (.iconst 0, 1) ∧ decode cX12_isKept 84 = .ok (.ireturn, 1) ∧ True := dkl_ok (c := cX12_isKept) [(.aload_n 0, 1), (.invokevirtual 181, 3), (.ifCond .eq 7, 3), (.iconst 1, 1), (.goto 4, 3), (.iconst 0, 1), (.ireturn, 1)] 72 (by decide +kernel)
theorem dX12_isKept_72 : decode cX12_isKept 72 = .ok (.aload_n 0, 1) := eX12_isKept_72.1
theorem dX12_isKept_73 : decode cX12_isKept 73 = .ok (.invokevirtual 181, 3) := eX12_isKept_72.2.1
theorem dX12_isKept_76 : decode cX12_isKept 76 = .ok (.ifCond .eq 7, 3) := eX12_isKept_72.2.2.1
theorem dX12_isKept_79 : decode cX12_isKept 79 = .ok (.iconst 1, 1) := eX12_isKept_72.2.2.2.1
theorem dX12_isKept_80 : decode cX12_isKept 80 = .ok (.goto 4, 3) := eX12_isKept_72.2.2.2.2.1
theorem dX12_isKept_83 : decode cX12_isKept 83 = .ok (.iconst 0, 1) := eX12_isKept_72.2.2.2.2.2.1
theorem dX12_isKept_84 : decode cX12_isKept 84 = .ok (.ireturn, 1) := eX12_isKept_72.2.2.2.2.2.2.1
theorem eX12_isName_0 : decode cX12_isName 0 = .ok (.aload_n 0, 1) ∧ decode cX12_isName 1 = .ok (.getfield 110, 3) ∧ decode cX12_isName 4 = .ok (.iconst 1, 1) ∧ decode cX12_isName 5 = .ok (.if_icmp .ne 23, 3) ∧ decode cX12_isName 8 = .ok (.aload_n 0, 1) ∧ decode cX12_isName 9 = .ok (.getfield 123, 3) ∧ decode cX12_isName 12 = .ok (.bipush 8, 2) ∧ decode cX12_isName 14 = .ok (.if_icmp .gt 14, 3) ∧ True := dkl_ok (c := cX12_isName) [(.aload_n 0, 1), (.getfield 110, 3), (.iconst 1, 1), (.if_icmp .ne 23, 3), (.aload_n 0, 1), (.getfield 123, 3), (.bipush 8, 2), (.if_icmp .gt 14, 3)] 0 (by decide +kernel)
theorem dX12_isName_0 : decode cX12_isName 0 = .ok (.aload_n 0, 1) := eX12_isName_0.1
theorem dX12_isName_1 : decode cX12_isName 1 = .ok (.getfield 110, 3) := eX12_isName_0.2.1
theorem dX12_isName_4 : decode cX12_isName 4 = .ok (.iconst 1, 1) := eX12_isName_0.2.2.1
theorem dX12_isName_5 : decode cX12_isName 5 = .ok (.if_icmp .ne 23, 3) := eX12_isName_0.2.2.2.1
theorem dX12_isName_8 : decode cX12_isName 8 = .ok (.aload_n 0, 1) := eX12_isName_0.2.2.2.2.1
theorem dX12_isName_9 : decode cX12_isName 9 = .ok (.getfield 123, 3) := eX12_isName_0.2.2.2.2.2.1
theorem dX12_isName_12 : decode cX12_isName 12 = .ok (.bipush 8, 2) := eX12_isName_0.2.2.2.2.2.2.1
theorem dX12_isName_14 : decode cX12_isName 14 = .ok (.if_icmp .gt 14, 3) := eX12_isName_0.2.2.2.2.2.2.2.1
theorem eX12_isName_17 : decode cX12_isName 17 = .ok (.aload_n 0, 1) ∧ decode cX12_isName 18 = .ok (.invokevirtual 184, 3) ∧ decode cX12_isName 21 = .ok (.ifCond .ne 7, 3) ∧ decode cX12_isName 24 = .ok (.iconst 1, 1) ∧ decode cX12_isName 25 = .ok (.goto 4, 3) ∧ decode cX12_isName 28 = .ok (.iconst 0, 1) ∧ decode cX12_isName 29 = .ok (.ireturn, 1) ∧ True := dkl_ok (c := cX12_isName) [(.aload_n 0, 1), (.invokevirtual 184, 3), (.ifCond .ne 7, 3), (.iconst 1, 1), (.goto 4, 3), (.iconst 0, 1), (.ireturn, 1)] 17 (by decide +kernel)
theorem dX12_isName_17 : decode cX12_isName 17 = .ok (.aload_n 0, 1) := eX12_isName_17.1
theorem dX12_isName_18 : decode cX12_isName 18 = .ok (.invokevirtual 184, 3) := eX12_isName_17.2.1
theorem dX12_isName_21 : decode cX12_isName 21 = .ok (.ifCond .ne 7, 3) := eX12_isName_17.2.2.1
theorem dX12_isName_24 : decode cX12_isName 24 = .ok (.iconst 1, 1) := eX12_isName_17.2.2.2.1
theorem dX12_isName_25 : decode cX12_isName 25 = .ok (.goto 4, 3) := eX12_isName_17.2.2.2.2.1
theorem dX12_isName_28 : decode cX12_isName 28 = .ok (.iconst 0, 1) := eX12_isName_17.2.2.2.2.2.1
theorem dX12_isName_29 : decode cX12_isName 29 = .ok (.ireturn, 1) := eX12_isName_17.2.2.2.2.2.2.1
theorem eX12_fail_0 : decode cX12_fail 0 = .ok (.aload_n 0, 1) ∧ decode cX12_fail 1 = .ok (.getfield 187, 3) ∧ decode cX12_fail 4 = .ok (.ifCond .le 4, 3) ∧ decode cX12_fail 7 = .ok (.return_, 1) ∧ decode cX12_fail 8 = .ok (.aload_n 0, 1) ∧ decode cX12_fail 9 = .ok (.iload_n 1, 1) ∧ decode cX12_fail 10 = .ok (.putfield 187, 3) ∧ decode cX12_fail 13 = .ok (.aload_n 0, 1) ∧ True := dkl_ok (c := cX12_fail) [(.aload_n 0, 1), (.getfield 187, 3), (.ifCond .le 4, 3), (.return_, 1), (.aload_n 0, 1), (.iload_n 1, 1), (.putfield 187, 3), (.aload_n 0, 1)] 0 (by decide +kernel)
theorem dX12_fail_0 : decode cX12_fail 0 = .ok (.aload_n 0, 1) := eX12_fail_0.1
theorem dX12_fail_1 : decode cX12_fail 1 = .ok (.getfield 187, 3) := eX12_fail_0.2.1
theorem dX12_fail_4 : decode cX12_fail 4 = .ok (.ifCond .le 4, 3) := eX12_fail_0.2.2.1
theorem dX12_fail_7 : decode cX12_fail 7 = .ok (.return_, 1) := eX12_fail_0.2.2.2.1
theorem dX12_fail_8 : decode cX12_fail 8 = .ok (.aload_n 0, 1) := eX12_fail_0.2.2.2.2.1
theorem dX12_fail_9 : decode cX12_fail 9 = .ok (.iload_n 1, 1) := eX12_fail_0.2.2.2.2.2.1
theorem dX12_fail_10 : decode cX12_fail 10 = .ok (.putfield 187, 3) := eX12_fail_0.2.2.2.2.2.2.1
theorem dX12_fail_13 : decode cX12_fail 13 = .ok (.aload_n 0, 1) := eX12_fail_0.2.2.2.2.2.2.2.1
theorem eX12_fail_14 : decode cX12_fail 14 = .ok (.iload_n 2, 1) ∧ decode cX12_fail 15 = .ok (.putfield 190, 3) ∧ decode cX12_fail 18 = .ok (.return_, 1) ∧ True := dkl_ok (c := cX12_fail) [(.iload_n 2, 1), (.putfield 190, 3), (.return_, 1)] 14 (by decide +kernel)
theorem dX12_fail_14 : decode cX12_fail 14 = .ok (.iload_n 2, 1) := eX12_fail_14.1
theorem dX12_fail_15 : decode cX12_fail 15 = .ok (.putfield 190, 3) := eX12_fail_14.2.1
theorem dX12_fail_18 : decode cX12_fail 18 = .ok (.return_, 1) := eX12_fail_14.2.2.1
theorem eX12_wrong_0 : decode cX12_wrong 0 = .ok (.aload_n 0, 1) ∧ decode cX12_wrong 1 = .ok (.aload_n 0, 1) ∧ decode cX12_wrong 2 = .ok (.getfield 110, 3) ∧ decode cX12_wrong 5 = .ok (.iconst 4, 1) ∧ decode cX12_wrong 6 = .ok (.if_icmp .ne 7, 3) ∧ decode cX12_wrong 9 = .ok (.iconst 1, 1) ∧ decode cX12_wrong 10 = .ok (.goto 4, 3) ∧ decode cX12_wrong 13 = .ok (.iconst 2, 1) ∧ True := dkl_ok (c := cX12_wrong) [(.aload_n 0, 1), (.aload_n 0, 1), (.getfield 110, 3), (.iconst 4, 1), (.if_icmp .ne 7, 3), (.iconst 1, 1), (.goto 4, 3), (.iconst 2, 1)] 0 (by decide +kernel)
theorem dX12_wrong_0 : decode cX12_wrong 0 = .ok (.aload_n 0, 1) := eX12_wrong_0.1
theorem dX12_wrong_1 : decode cX12_wrong 1 = .ok (.aload_n 0, 1) := eX12_wrong_0.2.1
theorem dX12_wrong_2 : decode cX12_wrong 2 = .ok (.getfield 110, 3) := eX12_wrong_0.2.2.1
theorem dX12_wrong_5 : decode cX12_wrong 5 = .ok (.iconst 4, 1) := eX12_wrong_0.2.2.2.1
theorem dX12_wrong_6 : decode cX12_wrong 6 = .ok (.if_icmp .ne 7, 3) := eX12_wrong_0.2.2.2.2.1
theorem dX12_wrong_9 : decode cX12_wrong 9 = .ok (.iconst 1, 1) := eX12_wrong_0.2.2.2.2.2.1
theorem dX12_wrong_10 : decode cX12_wrong 10 = .ok (.goto 4, 3) := eX12_wrong_0.2.2.2.2.2.2.1
theorem dX12_wrong_13 : decode cX12_wrong 13 = .ok (.iconst 2, 1) := eX12_wrong_0.2.2.2.2.2.2.2.1
theorem eX12_wrong_14 : decode cX12_wrong 14 = .ok (.aload_n 0, 1) ∧ decode cX12_wrong 15 = .ok (.getfield 104, 3) ∧ decode cX12_wrong 18 = .ok (.invokevirtual 193, 3) ∧ decode cX12_wrong 21 = .ok (.return_, 1) ∧ True := dkl_ok (c := cX12_wrong) [(.aload_n 0, 1), (.getfield 104, 3), (.invokevirtual 193, 3), (.return_, 1)] 14 (by decide +kernel)
theorem dX12_wrong_14 : decode cX12_wrong 14 = .ok (.aload_n 0, 1) := eX12_wrong_14.1
theorem dX12_wrong_15 : decode cX12_wrong 15 = .ok (.getfield 104, 3) := eX12_wrong_14.2.1
theorem dX12_wrong_18 : decode cX12_wrong 18 = .ok (.invokevirtual 193, 3) := eX12_wrong_14.2.2.1
theorem dX12_wrong_21 : decode cX12_wrong 21 = .ok (.return_, 1) := eX12_wrong_14.2.2.2.1
theorem eX12_must_0 : decode cX12_must 0 = .ok (.aload_n 0, 1) ∧ decode cX12_must 1 = .ok (.getfield 187, 3) ∧ decode cX12_must 4 = .ok (.ifCond .le 4, 3) ∧ decode cX12_must 7 = .ok (.return_, 1) ∧ decode cX12_must 8 = .ok (.iload_n 1, 1) ∧ decode cX12_must 9 = .ok (.ifCond .eq 10, 3) ∧ decode cX12_must 12 = .ok (.aload_n 0, 1) ∧ decode cX12_must 13 = .ok (.invokevirtual 197, 3) ∧ True := dkl_ok (c := cX12_must) [(.aload_n 0, 1), (.getfield 187, 3), (.ifCond .le 4, 3), (.return_, 1), (.iload_n 1, 1), (.ifCond .eq 10, 3), (.aload_n 0, 1), (.invokevirtual 197, 3)] 0 (by decide +kernel)
theorem dX12_must_0 : decode cX12_must 0 = .ok (.aload_n 0, 1) := eX12_must_0.1
theorem dX12_must_1 : decode cX12_must 1 = .ok (.getfield 187, 3) := eX12_must_0.2.1
theorem dX12_must_4 : decode cX12_must 4 = .ok (.ifCond .le 4, 3) := eX12_must_0.2.2.1
theorem dX12_must_7 : decode cX12_must 7 = .ok (.return_, 1) := eX12_must_0.2.2.2.1
theorem dX12_must_8 : decode cX12_must 8 = .ok (.iload_n 1, 1) := eX12_must_0.2.2.2.2.1
theorem dX12_must_9 : decode cX12_must 9 = .ok (.ifCond .eq 10, 3) := eX12_must_0.2.2.2.2.2.1
theorem dX12_must_12 : decode cX12_must 12 = .ok (.aload_n 0, 1) := eX12_must_0.2.2.2.2.2.2.1
theorem dX12_must_13 : decode cX12_must 13 = .ok (.invokevirtual 197, 3) := eX12_must_0.2.2.2.2.2.2.2.1
theorem eX12_must_16 : decode cX12_must 16 = .ok (.goto 7, 3) ∧ decode cX12_must 19 = .ok (.aload_n 0, 1) ∧ decode cX12_must 20 = .ok (.invokevirtual 200, 3) ∧ decode cX12_must 23 = .ok (.return_, 1) ∧ True := dkl_ok (c := cX12_must) [(.goto 7, 3), (.aload_n 0, 1), (.invokevirtual 200, 3), (.return_, 1)] 16 (by decide +kernel)
theorem dX12_must_16 : decode cX12_must 16 = .ok (.goto 7, 3) := eX12_must_16.1
theorem dX12_must_19 : decode cX12_must 19 = .ok (.aload_n 0, 1) := eX12_must_16.2.1
theorem dX12_must_20 : decode cX12_must 20 = .ok (.invokevirtual 200, 3) := eX12_must_16.2.2.1
theorem dX12_must_23 : decode cX12_must 23 = .ok (.return_, 1) := eX12_must_16.2.2.2.1
theorem eX12_count_0 : decode cX12_count 0 = .ok (.aload_n 0, 1) ∧ decode cX12_count 1 = .ok (.getfield 187, 3) ∧ decode cX12_count 4 = .ok (.ifCond .ne 15, 3) ∧ decode cX12_count 7 = .ok (.aload_n 0, 1) ∧ decode cX12_count 8 = .ok (.getfield 110, 3) ∧ decode cX12_count 11 = .ok (.iconst 2, 1) ∧ decode cX12_count 12 = .ok (.if_icmp .eq 7, 3) ∧ decode cX12_count 15 = .ok (.aload_n 0, 1) ∧ True := dkl_ok (c := cX12_count) [(.aload_n 0, 1), (.getfield 187, 3), (.ifCond .ne 15, 3), (.aload_n 0, 1), (.getfield 110, 3), (.iconst 2, 1), (.if_icmp .eq 7, 3), (.aload_n 0, 1)] 0 (by decide +kernel)
theorem dX12_count_0 : decode cX12_count 0 = .ok (.aload_n 0, 1) := eX12_count_0.1
theorem dX12_count_1 : decode cX12_count 1 = .ok (.getfield 187, 3) := eX12_count_0.2.1
theorem dX12_count_4 : decode cX12_count 4 = .ok (.ifCond .ne 15, 3) := eX12_count_0.2.2.1
theorem dX12_count_7 : decode cX12_count 7 = .ok (.aload_n 0, 1) := eX12_count_0.2.2.2.1
theorem dX12_count_8 : decode cX12_count 8 = .ok (.getfield 110, 3) := eX12_count_0.2.2.2.2.1
theorem dX12_count_11 : decode cX12_count 11 = .ok (.iconst 2, 1) := eX12_count_0.2.2.2.2.2.1
theorem dX12_count_12 : decode cX12_count 12 = .ok (.if_icmp .eq 7, 3) := eX12_count_0.2.2.2.2.2.2.1
theorem dX12_count_15 : decode cX12_count 15 = .ok (.aload_n 0, 1) := eX12_count_0.2.2.2.2.2.2.2.1
theorem eX12_count_16 : decode cX12_count 16 = .ok (.invokevirtual 200, 3) ∧ decode cX12_count 19 = .ok (.aload_n 0, 1) ∧ decode cX12_count 20 = .ok (.getfield 187, 3) ∧ decode cX12_count 23 = .ok (.ifCond .ne 27, 3) ∧ decode cX12_count 26 = .ok (.aload_n 0, 1) ∧ decode cX12_count 27 = .ok (.getfield 129, 3) ∧ decode cX12_count 30 = .ok (.i2l, 1) ∧ decode cX12_count 31 = .ok (.iload_n 1, 1) ∧ True := dkl_ok (c := cX12_count) [(.invokevirtual 200, 3), (.aload_n 0, 1), (.getfield 187, 3), (.ifCond .ne 27, 3), (.aload_n 0, 1), (.getfield 129, 3), (.i2l, 1), (.iload_n 1, 1)] 16 (by decide +kernel)
theorem dX12_count_16 : decode cX12_count 16 = .ok (.invokevirtual 200, 3) := eX12_count_16.1
theorem dX12_count_19 : decode cX12_count 19 = .ok (.aload_n 0, 1) := eX12_count_16.2.1
theorem dX12_count_20 : decode cX12_count 20 = .ok (.getfield 187, 3) := eX12_count_16.2.2.1
theorem dX12_count_23 : decode cX12_count 23 = .ok (.ifCond .ne 27, 3) := eX12_count_16.2.2.2.1
theorem dX12_count_26 : decode cX12_count 26 = .ok (.aload_n 0, 1) := eX12_count_16.2.2.2.2.1
theorem dX12_count_27 : decode cX12_count 27 = .ok (.getfield 129, 3) := eX12_count_16.2.2.2.2.2.1
theorem dX12_count_30 : decode cX12_count 30 = .ok (.i2l, 1) := eX12_count_16.2.2.2.2.2.2.1
theorem dX12_count_31 : decode cX12_count 31 = .ok (.iload_n 1, 1) := eX12_count_16.2.2.2.2.2.2.2.1
theorem eX12_count_32 : decode cX12_count 32 = .ok (.i2l, 1) ∧ decode cX12_count 33 = .ok (.iload_n 2, 1) ∧ decode cX12_count 34 = .ok (.i2l, 1) ∧ decode cX12_count 35 = .ok (.invokestatic 94, 3) ∧ decode cX12_count 38 = .ok (.ifCond .ne 12, 3) ∧ decode cX12_count 41 = .ok (.aload_n 0, 1) ∧ decode cX12_count 42 = .ok (.iconst 4, 1) ∧ decode cX12_count 43 = .ok (.aload_n 0, 1) ∧ True := dkl_ok (c := cX12_count) [(.i2l, 1), (.iload_n 2, 1), (.i2l, 1), (.invokestatic 94, 3), (.ifCond .ne 12, 3), (.aload_n 0, 1), (.iconst 4, 1), (.aload_n 0, 1)] 32 (by decide +kernel)
theorem dX12_count_32 : decode cX12_count 32 = .ok (.i2l, 1) := eX12_count_32.1
theorem dX12_count_33 : decode cX12_count 33 = .ok (.iload_n 2, 1) := eX12_count_32.2.1
theorem dX12_count_34 : decode cX12_count 34 = .ok (.i2l, 1) := eX12_count_32.2.2.1
theorem dX12_count_35 : decode cX12_count 35 = .ok (.invokestatic 94, 3) := eX12_count_32.2.2.2.1
theorem dX12_count_38 : decode cX12_count 38 = .ok (.ifCond .ne 12, 3) := eX12_count_32.2.2.2.2.1
theorem dX12_count_41 : decode cX12_count 41 = .ok (.aload_n 0, 1) := eX12_count_32.2.2.2.2.2.1
theorem dX12_count_42 : decode cX12_count 42 = .ok (.iconst 4, 1) := eX12_count_32.2.2.2.2.2.2.1
theorem dX12_count_43 : decode cX12_count 43 = .ok (.aload_n 0, 1) := eX12_count_32.2.2.2.2.2.2.2.1
theorem eX12_count_44 : decode cX12_count 44 = .ok (.getfield 104, 3) ∧ decode cX12_count 47 = .ok (.invokevirtual 193, 3) ∧ decode cX12_count 50 = .ok (.aload_n 0, 1) ∧ decode cX12_count 51 = .ok (.getfield 187, 3) ∧ decode cX12_count 54 = .ok (.ifCond .le 5, 3) ∧ decode cX12_count 57 = .ok (.iconst 0, 1) ∧ decode cX12_count 58 = .ok (.ireturn, 1) ∧ decode cX12_count 59 = .ok (.aload_n 0, 1) ∧ True := dkl_ok (c := cX12_count) [(.getfield 104, 3), (.invokevirtual 193, 3), (.aload_n 0, 1), (.getfield 187, 3), (.ifCond .le 5, 3), (.iconst 0, 1), (.ireturn, 1), (.aload_n 0, 1)] 44 (by decide +kernel)
theorem dX12_count_44 : decode cX12_count 44 = .ok (.getfield 104, 3) := eX12_count_44.1
theorem dX12_count_47 : decode cX12_count 47 = .ok (.invokevirtual 193, 3) := eX12_count_44.2.1
theorem dX12_count_50 : decode cX12_count 50 = .ok (.aload_n 0, 1) := eX12_count_44.2.2.1
theorem dX12_count_51 : decode cX12_count 51 = .ok (.getfield 187, 3) := eX12_count_44.2.2.2.1
theorem dX12_count_54 : decode cX12_count 54 = .ok (.ifCond .le 5, 3) := eX12_count_44.2.2.2.2.1
theorem dX12_count_57 : decode cX12_count 57 = .ok (.iconst 0, 1) := eX12_count_44.2.2.2.2.2.1
theorem dX12_count_58 : decode cX12_count 58 = .ok (.ireturn, 1) := eX12_count_44.2.2.2.2.2.2.1
theorem dX12_count_59 : decode cX12_count 59 = .ok (.aload_n 0, 1) := eX12_count_44.2.2.2.2.2.2.2.1
theorem eX12_count_60 : decode cX12_count 60 = .ok (.getfield 129, 3) ∧ decode cX12_count 63 = .ok (.istore_n 3, 1) ∧ decode cX12_count 64 = .ok (.aload_n 0, 1) ∧ decode cX12_count 65 = .ok (.invokevirtual 197, 3) ∧ decode cX12_count 68 = .ok (.iload_n 3, 1) ∧ decode cX12_count 69 = .ok (.ireturn, 1) ∧ True := dkl_ok (c := cX12_count) [(.getfield 129, 3), (.istore_n 3, 1), (.aload_n 0, 1), (.invokevirtual 197, 3), (.iload_n 3, 1), (.ireturn, 1)] 60 (by decide +kernel)
theorem dX12_count_60 : decode cX12_count 60 = .ok (.getfield 129, 3) := eX12_count_60.1
theorem dX12_count_63 : decode cX12_count 63 = .ok (.istore_n 3, 1) := eX12_count_60.2.1
theorem dX12_count_64 : decode cX12_count 64 = .ok (.aload_n 0, 1) := eX12_count_60.2.2.1
theorem dX12_count_65 : decode cX12_count 65 = .ok (.invokevirtual 197, 3) := eX12_count_60.2.2.2.1
theorem dX12_count_68 : decode cX12_count 68 = .ok (.iload_n 3, 1) := eX12_count_60.2.2.2.2.1
theorem dX12_count_69 : decode cX12_count 69 = .ok (.ireturn, 1) := eX12_count_60.2.2.2.2.2.1
theorem eX12_feed_0 : decode cX12_feed 0 = .ok (.aload_n 0, 1) ∧ decode cX12_feed 1 = .ok (.iconst 0, 1) ∧ decode cX12_feed 2 = .ok (.putfield 59, 3) ∧ decode cX12_feed 5 = .ok (.aload_n 0, 1) ∧ decode cX12_feed 6 = .ok (.getfield 203, 3) ∧ decode cX12_feed 9 = .ok (.bipush 20, 2) ∧ decode cX12_feed 11 = .ok (.iadd, 1) ∧ decode cX12_feed 12 = .ok (.sipush 900, 3) ∧ True := dkl_ok (c := cX12_feed) [(.aload_n 0, 1), (.iconst 0, 1), (.putfield 59, 3), (.aload_n 0, 1), (.getfield 203, 3), (.bipush 20, 2), (.iadd, 1), (.sipush 900, 3)] 0 (by decide +kernel)
theorem dX12_feed_0 : decode cX12_feed 0 = .ok (.aload_n 0, 1) := eX12_feed_0.1
theorem dX12_feed_1 : decode cX12_feed 1 = .ok (.iconst 0, 1) := eX12_feed_0.2.1
theorem dX12_feed_2 : decode cX12_feed 2 = .ok (.putfield 59, 3) := eX12_feed_0.2.2.1
theorem dX12_feed_5 : decode cX12_feed 5 = .ok (.aload_n 0, 1) := eX12_feed_0.2.2.2.1
theorem dX12_feed_6 : decode cX12_feed 6 = .ok (.getfield 203, 3) := eX12_feed_0.2.2.2.2.1
theorem dX12_feed_9 : decode cX12_feed 9 = .ok (.bipush 20, 2) := eX12_feed_0.2.2.2.2.2.1
theorem dX12_feed_11 : decode cX12_feed 11 = .ok (.iadd, 1) := eX12_feed_0.2.2.2.2.2.2.1
theorem dX12_feed_12 : decode cX12_feed 12 = .ok (.sipush 900, 3) := eX12_feed_0.2.2.2.2.2.2.2.1
theorem eX12_feed_15 : decode cX12_feed 15 = .ok (.if_icmp .le 5, 3) ∧ decode cX12_feed 18 = .ok (.iconst (-1), 1) ∧ decode cX12_feed 19 = .ok (.ireturn, 1) ∧ decode cX12_feed 20 = .ok (.aload_n 0, 1) ∧ decode cX12_feed 21 = .ok (.iload_n 1, 1) ∧ decode cX12_feed 22 = .ok (.invokevirtual 206, 3) ∧ decode cX12_feed 25 = .ok (.aload_n 0, 1) ∧ decode cX12_feed 26 = .ok (.iload_n 2, 1) ∧ True := dkl_ok (c := cX12_feed) [(.if_icmp .le 5, 3), (.iconst (-1), 1), (.ireturn, 1), (.aload_n 0, 1), (.iload_n 1, 1), (.invokevirtual 206, 3), (.aload_n 0, 1), (.iload_n 2, 1)] 15 (by decide +kernel)
theorem dX12_feed_15 : decode cX12_feed 15 = .ok (.if_icmp .le 5, 3) := eX12_feed_15.1
theorem dX12_feed_18 : decode cX12_feed 18 = .ok (.iconst (-1), 1) := eX12_feed_15.2.1
theorem dX12_feed_19 : decode cX12_feed 19 = .ok (.ireturn, 1) := eX12_feed_15.2.2.1
theorem dX12_feed_20 : decode cX12_feed 20 = .ok (.aload_n 0, 1) := eX12_feed_15.2.2.2.1
theorem dX12_feed_21 : decode cX12_feed 21 = .ok (.iload_n 1, 1) := eX12_feed_15.2.2.2.2.1
theorem dX12_feed_22 : decode cX12_feed 22 = .ok (.invokevirtual 206, 3) := eX12_feed_15.2.2.2.2.2.1
theorem dX12_feed_25 : decode cX12_feed 25 = .ok (.aload_n 0, 1) := eX12_feed_15.2.2.2.2.2.2.1
theorem dX12_feed_26 : decode cX12_feed 26 = .ok (.iload_n 2, 1) := eX12_feed_15.2.2.2.2.2.2.2.1
theorem eX12_feed_27 : decode cX12_feed 27 = .ok (.invokevirtual 206, 3) ∧ decode cX12_feed 30 = .ok (.aload_n 0, 1) ∧ decode cX12_feed 31 = .ok (.iload_n 3, 1) ∧ decode cX12_feed 32 = .ok (.invokevirtual 206, 3) ∧ decode cX12_feed 35 = .ok (.aload_n 0, 1) ∧ decode cX12_feed 36 = .ok (.iload 4, 2) ∧ decode cX12_feed 38 = .ok (.invokevirtual 206, 3) ∧ decode cX12_feed 41 = .ok (.aload_n 0, 1) ∧ True := dkl_ok (c := cX12_feed) [(.invokevirtual 206, 3), (.aload_n 0, 1), (.iload_n 3, 1), (.invokevirtual 206, 3), (.aload_n 0, 1), (.iload 4, 2), (.invokevirtual 206, 3), (.aload_n 0, 1)] 27 (by decide +kernel)
theorem dX12_feed_27 : decode cX12_feed 27 = .ok (.invokevirtual 206, 3) := eX12_feed_27.1
theorem dX12_feed_30 : decode cX12_feed 30 = .ok (.aload_n 0, 1) := eX12_feed_27.2.1
theorem dX12_feed_31 : decode cX12_feed 31 = .ok (.iload_n 3, 1) := eX12_feed_27.2.2.1
theorem dX12_feed_32 : decode cX12_feed 32 = .ok (.invokevirtual 206, 3) := eX12_feed_27.2.2.2.1
theorem dX12_feed_35 : decode cX12_feed 35 = .ok (.aload_n 0, 1) := eX12_feed_27.2.2.2.2.1
theorem dX12_feed_36 : decode cX12_feed 36 = .ok (.iload 4, 2) := eX12_feed_27.2.2.2.2.2.1
theorem dX12_feed_38 : decode cX12_feed 38 = .ok (.invokevirtual 206, 3) := eX12_feed_27.2.2.2.2.2.2.1
theorem dX12_feed_41 : decode cX12_feed 41 = .ok (.aload_n 0, 1) := eX12_feed_27.2.2.2.2.2.2.2.1
theorem eX12_feed_42 : decode cX12_feed 42 = .ok (.iload 5, 2) ∧ decode cX12_feed 44 = .ok (.invokevirtual 206, 3) ∧ decode cX12_feed 47 = .ok (.aload_n 0, 1) ∧ decode cX12_feed 48 = .ok (.getfield 203, 3) ∧ decode cX12_feed 51 = .ok (.ireturn, 1) ∧ True := dkl_ok (c := cX12_feed) [(.iload 5, 2), (.invokevirtual 206, 3), (.aload_n 0, 1), (.getfield 203, 3), (.ireturn, 1)] 42 (by decide +kernel)
theorem dX12_feed_42 : decode cX12_feed 42 = .ok (.iload 5, 2) := eX12_feed_42.1
theorem dX12_feed_44 : decode cX12_feed 44 = .ok (.invokevirtual 206, 3) := eX12_feed_42.2.1
theorem dX12_feed_47 : decode cX12_feed 47 = .ok (.aload_n 0, 1) := eX12_feed_42.2.2.1
theorem dX12_feed_48 : decode cX12_feed 48 = .ok (.getfield 203, 3) := eX12_feed_42.2.2.2.1
theorem dX12_feed_51 : decode cX12_feed 51 = .ok (.ireturn, 1) := eX12_feed_42.2.2.2.2.1
theorem eX12_lays_0 : decode cX12_lays 0 = .ok (.iconst 3, 1) ∧ decode cX12_lays 1 = .ok (.istore_n 2, 1) ∧ decode cX12_lays 2 = .ok (.iload_n 2, 1) ∧ decode cX12_lays 3 = .ok (.ifCond .lt 35, 3) ∧ decode cX12_lays 6 = .ok (.aload_n 0, 1) ∧ decode cX12_lays 7 = .ok (.getfield 24, 3) ∧ decode cX12_lays 10 = .ok (.aload_n 0, 1) ∧ decode cX12_lays 11 = .ok (.getfield 203, 3) ∧ True := dkl_ok (c := cX12_lays) [(.iconst 3, 1), (.istore_n 2, 1), (.iload_n 2, 1), (.ifCond .lt 35, 3), (.aload_n 0, 1), (.getfield 24, 3), (.aload_n 0, 1), (.getfield 203, 3)] 0 (by decide +kernel)
theorem dX12_lays_0 : decode cX12_lays 0 = .ok (.iconst 3, 1) := eX12_lays_0.1
theorem dX12_lays_1 : decode cX12_lays 1 = .ok (.istore_n 2, 1) := eX12_lays_0.2.1
theorem dX12_lays_2 : decode cX12_lays 2 = .ok (.iload_n 2, 1) := eX12_lays_0.2.2.1
theorem dX12_lays_3 : decode cX12_lays 3 = .ok (.ifCond .lt 35, 3) := eX12_lays_0.2.2.2.1
theorem dX12_lays_6 : decode cX12_lays 6 = .ok (.aload_n 0, 1) := eX12_lays_0.2.2.2.2.1
theorem dX12_lays_7 : decode cX12_lays 7 = .ok (.getfield 24, 3) := eX12_lays_0.2.2.2.2.2.1
theorem dX12_lays_10 : decode cX12_lays 10 = .ok (.aload_n 0, 1) := eX12_lays_0.2.2.2.2.2.2.1
theorem dX12_lays_11 : decode cX12_lays 11 = .ok (.getfield 203, 3) := eX12_lays_0.2.2.2.2.2.2.2.1
theorem eX12_lays_14 : decode cX12_lays 14 = .ok (.iload_n 1, 1) ∧ decode cX12_lays 15 = .ok (.bipush 8, 2) ∧ decode cX12_lays 17 = .ok (.iload_n 2, 1) ∧ decode cX12_lays 18 = .ok (.imul, 1) ∧ decode cX12_lays 19 = .ok (.ishr, 1) ∧ decode cX12_lays 20 = .ok (.i2b, 1) ∧ decode cX12_lays 21 = .ok (.bastore, 1) ∧ decode cX12_lays 22 = .ok (.aload_n 0, 1) ∧ True := dkl_ok (c := cX12_lays) [(.iload_n 1, 1), (.bipush 8, 2), (.iload_n 2, 1), (.imul, 1), (.ishr, 1), (.i2b, 1), (.bastore, 1), (.aload_n 0, 1)] 14 (by decide +kernel)
theorem dX12_lays_14 : decode cX12_lays 14 = .ok (.iload_n 1, 1) := eX12_lays_14.1
theorem dX12_lays_15 : decode cX12_lays 15 = .ok (.bipush 8, 2) := eX12_lays_14.2.1
theorem dX12_lays_17 : decode cX12_lays 17 = .ok (.iload_n 2, 1) := eX12_lays_14.2.2.1
theorem dX12_lays_18 : decode cX12_lays 18 = .ok (.imul, 1) := eX12_lays_14.2.2.2.1
theorem dX12_lays_19 : decode cX12_lays 19 = .ok (.ishr, 1) := eX12_lays_14.2.2.2.2.1
theorem dX12_lays_20 : decode cX12_lays 20 = .ok (.i2b, 1) := eX12_lays_14.2.2.2.2.2.1
theorem dX12_lays_21 : decode cX12_lays 21 = .ok (.bastore, 1) := eX12_lays_14.2.2.2.2.2.2.1
theorem dX12_lays_22 : decode cX12_lays 22 = .ok (.aload_n 0, 1) := eX12_lays_14.2.2.2.2.2.2.2.1
theorem eX12_lays_23 : decode cX12_lays 23 = .ok (.dup, 1) ∧ decode cX12_lays 24 = .ok (.getfield 203, 3) ∧ decode cX12_lays 27 = .ok (.iconst 1, 1) ∧ decode cX12_lays 28 = .ok (.iadd, 1) ∧ decode cX12_lays 29 = .ok (.putfield 203, 3) ∧ decode cX12_lays 32 = .ok (.iinc 2 (-1), 3) ∧ decode cX12_lays 35 = .ok (.goto (-33), 3) ∧ decode cX12_lays 38 = .ok (.return_, 1) ∧ True := dkl_ok (c := cX12_lays) [(.dup, 1), (.getfield 203, 3), (.iconst 1, 1), (.iadd, 1), (.putfield 203, 3), (.iinc 2 (-1), 3), (.goto (-33), 3), (.return_, 1)] 23 (by decide +kernel)
theorem dX12_lays_23 : decode cX12_lays 23 = .ok (.dup, 1) := eX12_lays_23.1
theorem dX12_lays_24 : decode cX12_lays 24 = .ok (.getfield 203, 3) := eX12_lays_23.2.1
theorem dX12_lays_27 : decode cX12_lays 27 = .ok (.iconst 1, 1) := eX12_lays_23.2.2.1
theorem dX12_lays_28 : decode cX12_lays 28 = .ok (.iadd, 1) := eX12_lays_23.2.2.2.1
theorem dX12_lays_29 : decode cX12_lays 29 = .ok (.putfield 203, 3) := eX12_lays_23.2.2.2.2.1
theorem dX12_lays_32 : decode cX12_lays 32 = .ok (.iinc 2 (-1), 3) := eX12_lays_23.2.2.2.2.2.1
theorem dX12_lays_35 : decode cX12_lays 35 = .ok (.goto (-33), 3) := eX12_lays_23.2.2.2.2.2.2.1
theorem dX12_lays_38 : decode cX12_lays 38 = .ok (.return_, 1) := eX12_lays_23.2.2.2.2.2.2.2.1
theorem eX12_opens_0 : decode cX12_opens 0 = .ok (.iload_n 1, 1) ∧ decode cX12_opens 1 = .ok (.ifCond .lt 16, 3) ∧ decode cX12_opens 4 = .ok (.iload_n 1, 1) ∧ decode cX12_opens 5 = .ok (.aload_n 0, 1) ∧ decode cX12_opens 6 = .ok (.getfield 203, 3) ∧ decode cX12_opens 9 = .ok (.if_icmp .gt 8, 3) ∧ decode cX12_opens 12 = .ok (.iload_n 1, 1) ∧ decode cX12_opens 13 = .ok (.iload_n 2, 1) ∧ True := dkl_ok (c := cX12_opens) [(.iload_n 1, 1), (.ifCond .lt 16, 3), (.iload_n 1, 1), (.aload_n 0, 1), (.getfield 203, 3), (.if_icmp .gt 8, 3), (.iload_n 1, 1), (.iload_n 2, 1)] 0 (by decide +kernel)
theorem dX12_opens_0 : decode cX12_opens 0 = .ok (.iload_n 1, 1) := eX12_opens_0.1
theorem dX12_opens_1 : decode cX12_opens 1 = .ok (.ifCond .lt 16, 3) := eX12_opens_0.2.1
theorem dX12_opens_4 : decode cX12_opens 4 = .ok (.iload_n 1, 1) := eX12_opens_0.2.2.1
theorem dX12_opens_5 : decode cX12_opens 5 = .ok (.aload_n 0, 1) := eX12_opens_0.2.2.2.1
theorem dX12_opens_6 : decode cX12_opens 6 = .ok (.getfield 203, 3) := eX12_opens_0.2.2.2.2.1
theorem dX12_opens_9 : decode cX12_opens 9 = .ok (.if_icmp .gt 8, 3) := eX12_opens_0.2.2.2.2.2.1
theorem dX12_opens_12 : decode cX12_opens 12 = .ok (.iload_n 1, 1) := eX12_opens_0.2.2.2.2.2.2.1
theorem dX12_opens_13 : decode cX12_opens 13 = .ok (.iload_n 2, 1) := eX12_opens_0.2.2.2.2.2.2.2.1
theorem eX12_opens_14 : decode cX12_opens 14 = .ok (.if_icmp .le 9, 3) ∧ decode cX12_opens 17 = .ok (.aload_n 0, 1) ∧ decode cX12_opens 18 = .ok (.iconst 5, 1) ∧ decode cX12_opens 19 = .ok (.invokevirtual 74, 3) ∧ decode cX12_opens 22 = .ok (.ireturn, 1) ∧ decode cX12_opens 23 = .ok (.aload_n 0, 1) ∧ decode cX12_opens 24 = .ok (.iload_n 1, 1) ∧ decode cX12_opens 25 = .ok (.putfield 98, 3) ∧ True := dkl_ok (c := cX12_opens) [(.if_icmp .le 9, 3), (.aload_n 0, 1), (.iconst 5, 1), (.invokevirtual 74, 3), (.ireturn, 1), (.aload_n 0, 1), (.iload_n 1, 1), (.putfield 98, 3)] 14 (by decide +kernel)
theorem dX12_opens_14 : decode cX12_opens 14 = .ok (.if_icmp .le 9, 3) := eX12_opens_14.1
theorem dX12_opens_17 : decode cX12_opens 17 = .ok (.aload_n 0, 1) := eX12_opens_14.2.1
theorem dX12_opens_18 : decode cX12_opens 18 = .ok (.iconst 5, 1) := eX12_opens_14.2.2.1
theorem dX12_opens_19 : decode cX12_opens 19 = .ok (.invokevirtual 74, 3) := eX12_opens_14.2.2.2.1
theorem dX12_opens_22 : decode cX12_opens 22 = .ok (.ireturn, 1) := eX12_opens_14.2.2.2.2.1
theorem dX12_opens_23 : decode cX12_opens 23 = .ok (.aload_n 0, 1) := eX12_opens_14.2.2.2.2.2.1
theorem dX12_opens_24 : decode cX12_opens 24 = .ok (.iload_n 1, 1) := eX12_opens_14.2.2.2.2.2.2.1
theorem dX12_opens_25 : decode cX12_opens 25 = .ok (.putfield 98, 3) := eX12_opens_14.2.2.2.2.2.2.2.1
theorem eX12_opens_28 : decode cX12_opens 28 = .ok (.aload_n 0, 1) ∧ decode cX12_opens 29 = .ok (.iconst 0, 1) ∧ decode cX12_opens 30 = .ok (.putfield 203, 3) ∧ decode cX12_opens 33 = .ok (.aload_n 0, 1) ∧ decode cX12_opens 34 = .ok (.iconst 0, 1) ∧ decode cX12_opens 35 = .ok (.putfield 101, 3) ∧ decode cX12_opens 38 = .ok (.aload_n 0, 1) ∧ decode cX12_opens 39 = .ok (.iconst 0, 1) ∧ True := dkl_ok (c := cX12_opens) [(.aload_n 0, 1), (.iconst 0, 1), (.putfield 203, 3), (.aload_n 0, 1), (.iconst 0, 1), (.putfield 101, 3), (.aload_n 0, 1), (.iconst 0, 1)] 28 (by decide +kernel)
theorem dX12_opens_28 : decode cX12_opens 28 = .ok (.aload_n 0, 1) := eX12_opens_28.1
theorem dX12_opens_29 : decode cX12_opens 29 = .ok (.iconst 0, 1) := eX12_opens_28.2.1
theorem dX12_opens_30 : decode cX12_opens 30 = .ok (.putfield 203, 3) := eX12_opens_28.2.2.1
theorem dX12_opens_33 : decode cX12_opens 33 = .ok (.aload_n 0, 1) := eX12_opens_28.2.2.2.1
theorem dX12_opens_34 : decode cX12_opens 34 = .ok (.iconst 0, 1) := eX12_opens_28.2.2.2.2.1
theorem dX12_opens_35 : decode cX12_opens 35 = .ok (.putfield 101, 3) := eX12_opens_28.2.2.2.2.2.1
theorem dX12_opens_38 : decode cX12_opens 38 = .ok (.aload_n 0, 1) := eX12_opens_28.2.2.2.2.2.2.1
theorem dX12_opens_39 : decode cX12_opens 39 = .ok (.iconst 0, 1) := eX12_opens_28.2.2.2.2.2.2.2.1
theorem eX12_opens_40 : decode cX12_opens 40 = .ok (.putfield 187, 3) ∧ decode cX12_opens 43 = .ok (.aload_n 0, 1) ∧ decode cX12_opens 44 = .ok (.invokevirtual 197, 3) ∧ decode cX12_opens 47 = .ok (.iconst 1, 1) ∧ decode cX12_opens 48 = .ok (.ireturn, 1) ∧ True := dkl_ok (c := cX12_opens) [(.putfield 187, 3), (.aload_n 0, 1), (.invokevirtual 197, 3), (.iconst 1, 1), (.ireturn, 1)] 40 (by decide +kernel)
theorem dX12_opens_40 : decode cX12_opens 40 = .ok (.putfield 187, 3) := eX12_opens_40.1
theorem dX12_opens_43 : decode cX12_opens 43 = .ok (.aload_n 0, 1) := eX12_opens_40.2.1
theorem dX12_opens_44 : decode cX12_opens 44 = .ok (.invokevirtual 197, 3) := eX12_opens_40.2.2.1
theorem dX12_opens_47 : decode cX12_opens 47 = .ok (.iconst 1, 1) := eX12_opens_40.2.2.2.1
theorem dX12_opens_48 : decode cX12_opens 48 = .ok (.ireturn, 1) := eX12_opens_40.2.2.2.2.1
theorem eX12_isWell_0 : decode cX12_isWell 0 = .ok (.aload_n 0, 1) ∧ decode cX12_isWell 1 = .ok (.aload_n 0, 1) ∧ decode cX12_isWell 2 = .ok (.getfield 187, 3) ∧ decode cX12_isWell 5 = .ok (.putfield 28, 3) ∧ decode cX12_isWell 8 = .ok (.aload_n 0, 1) ∧ decode cX12_isWell 9 = .ok (.aload_n 0, 1) ∧ decode cX12_isWell 10 = .ok (.getfield 187, 3) ∧ decode cX12_isWell 13 = .ok (.ifCond .ne 7, 3) ∧ True := dkl_ok (c := cX12_isWell) [(.aload_n 0, 1), (.aload_n 0, 1), (.getfield 187, 3), (.putfield 28, 3), (.aload_n 0, 1), (.aload_n 0, 1), (.getfield 187, 3), (.ifCond .ne 7, 3)] 0 (by decide +kernel)
theorem dX12_isWell_0 : decode cX12_isWell 0 = .ok (.aload_n 0, 1) := eX12_isWell_0.1
theorem dX12_isWell_1 : decode cX12_isWell 1 = .ok (.aload_n 0, 1) := eX12_isWell_0.2.1
theorem dX12_isWell_2 : decode cX12_isWell 2 = .ok (.getfield 187, 3) := eX12_isWell_0.2.2.1
theorem dX12_isWell_5 : decode cX12_isWell 5 = .ok (.putfield 28, 3) := eX12_isWell_0.2.2.2.1
theorem dX12_isWell_8 : decode cX12_isWell 8 = .ok (.aload_n 0, 1) := eX12_isWell_0.2.2.2.2.1
theorem dX12_isWell_9 : decode cX12_isWell 9 = .ok (.aload_n 0, 1) := eX12_isWell_0.2.2.2.2.2.1
theorem dX12_isWell_10 : decode cX12_isWell 10 = .ok (.getfield 187, 3) := eX12_isWell_0.2.2.2.2.2.2.1
theorem dX12_isWell_13 : decode cX12_isWell 13 = .ok (.ifCond .ne 7, 3) := eX12_isWell_0.2.2.2.2.2.2.2.1
theorem eX12_isWell_16 : decode cX12_isWell 16 = .ok (.iconst (-1), 1) ∧ decode cX12_isWell 17 = .ok (.goto 7, 3) ∧ decode cX12_isWell 20 = .ok (.aload_n 0, 1) ∧ decode cX12_isWell 21 = .ok (.getfield 190, 3) ∧ decode cX12_isWell 24 = .ok (.putfield 32, 3) ∧ decode cX12_isWell 27 = .ok (.aload_n 0, 1) ∧ decode cX12_isWell 28 = .ok (.getfield 187, 3) ∧ decode cX12_isWell 31 = .ok (.ifCond .eq 12, 3) ∧ True := dkl_ok (c := cX12_isWell) [(.iconst (-1), 1), (.goto 7, 3), (.aload_n 0, 1), (.getfield 190, 3), (.putfield 32, 3), (.aload_n 0, 1), (.getfield 187, 3), (.ifCond .eq 12, 3)] 16 (by decide +kernel)
theorem dX12_isWell_16 : decode cX12_isWell 16 = .ok (.iconst (-1), 1) := eX12_isWell_16.1
theorem dX12_isWell_17 : decode cX12_isWell 17 = .ok (.goto 7, 3) := eX12_isWell_16.2.1
theorem dX12_isWell_20 : decode cX12_isWell 20 = .ok (.aload_n 0, 1) := eX12_isWell_16.2.2.1
theorem dX12_isWell_21 : decode cX12_isWell 21 = .ok (.getfield 190, 3) := eX12_isWell_16.2.2.2.1
theorem dX12_isWell_24 : decode cX12_isWell 24 = .ok (.putfield 32, 3) := eX12_isWell_16.2.2.2.2.1
theorem dX12_isWell_27 : decode cX12_isWell 27 = .ok (.aload_n 0, 1) := eX12_isWell_16.2.2.2.2.2.1
theorem dX12_isWell_28 : decode cX12_isWell 28 = .ok (.getfield 187, 3) := eX12_isWell_16.2.2.2.2.2.2.1
theorem dX12_isWell_31 : decode cX12_isWell 31 = .ok (.ifCond .eq 12, 3) := eX12_isWell_16.2.2.2.2.2.2.2.1
theorem eX12_isWell_34 : decode cX12_isWell 34 = .ok (.aload_n 0, 1) ∧ decode cX12_isWell 35 = .ok (.bipush 10, 2) ∧ decode cX12_isWell 37 = .ok (.invokevirtual 74, 3) ∧ decode cX12_isWell 40 = .ok (.ifCond .eq 7, 3) ∧ decode cX12_isWell 43 = .ok (.iconst 1, 1) ∧ decode cX12_isWell 44 = .ok (.goto 4, 3) ∧ decode cX12_isWell 47 = .ok (.iconst 0, 1) ∧ decode cX12_isWell 48 = .ok (.ireturn, 1) ∧ True := dkl_ok (c := cX12_isWell) [(.aload_n 0, 1), (.bipush 10, 2), (.invokevirtual 74, 3), (.ifCond .eq 7, 3), (.iconst 1, 1), (.goto 4, 3), (.iconst 0, 1), (.ireturn, 1)] 34 (by decide +kernel)
theorem dX12_isWell_34 : decode cX12_isWell 34 = .ok (.aload_n 0, 1) := eX12_isWell_34.1
theorem dX12_isWell_35 : decode cX12_isWell 35 = .ok (.bipush 10, 2) := eX12_isWell_34.2.1
theorem dX12_isWell_37 : decode cX12_isWell 37 = .ok (.invokevirtual 74, 3) := eX12_isWell_34.2.2.1
theorem dX12_isWell_40 : decode cX12_isWell 40 = .ok (.ifCond .eq 7, 3) := eX12_isWell_34.2.2.2.1
theorem dX12_isWell_43 : decode cX12_isWell 43 = .ok (.iconst 1, 1) := eX12_isWell_34.2.2.2.2.1
theorem dX12_isWell_44 : decode cX12_isWell 44 = .ok (.goto 4, 3) := eX12_isWell_34.2.2.2.2.2.1
theorem dX12_isWell_47 : decode cX12_isWell 47 = .ok (.iconst 0, 1) := eX12_isWell_34.2.2.2.2.2.2.1
theorem dX12_isWell_48 : decode cX12_isWell 48 = .ok (.ireturn, 1) := eX12_isWell_34.2.2.2.2.2.2.2.1
theorem eX12_fault_0 : decode cX12_fault 0 = .ok (.aload_n 0, 1) ∧ decode cX12_fault 1 = .ok (.iconst 0, 1) ∧ decode cX12_fault 2 = .ok (.putfield 59, 3) ∧ decode cX12_fault 5 = .ok (.iload_n 1, 1) ∧ decode cX12_fault 6 = .ok (.ifCond .ne 10, 3) ∧ decode cX12_fault 9 = .ok (.aload_n 0, 1) ∧ decode cX12_fault 10 = .ok (.getfield 28, 3) ∧ decode cX12_fault 13 = .ok (.goto 16, 3) ∧ True := dkl_ok (c := cX12_fault) [(.aload_n 0, 1), (.iconst 0, 1), (.putfield 59, 3), (.iload_n 1, 1), (.ifCond .ne 10, 3), (.aload_n 0, 1), (.getfield 28, 3), (.goto 16, 3)] 0 (by decide +kernel)
theorem dX12_fault_0 : decode cX12_fault 0 = .ok (.aload_n 0, 1) := eX12_fault_0.1
theorem dX12_fault_1 : decode cX12_fault 1 = .ok (.iconst 0, 1) := eX12_fault_0.2.1
theorem dX12_fault_2 : decode cX12_fault 2 = .ok (.putfield 59, 3) := eX12_fault_0.2.2.1
theorem dX12_fault_5 : decode cX12_fault 5 = .ok (.iload_n 1, 1) := eX12_fault_0.2.2.2.1
theorem dX12_fault_6 : decode cX12_fault 6 = .ok (.ifCond .ne 10, 3) := eX12_fault_0.2.2.2.2.1
theorem dX12_fault_9 : decode cX12_fault 9 = .ok (.aload_n 0, 1) := eX12_fault_0.2.2.2.2.2.1
theorem dX12_fault_10 : decode cX12_fault 10 = .ok (.getfield 28, 3) := eX12_fault_0.2.2.2.2.2.2.1
theorem dX12_fault_13 : decode cX12_fault 13 = .ok (.goto 16, 3) := eX12_fault_0.2.2.2.2.2.2.2.1
theorem eX12_fault_16 : decode cX12_fault 16 = .ok (.iload_n 1, 1) ∧ decode cX12_fault 17 = .ok (.iconst 1, 1) ∧ decode cX12_fault 18 = .ok (.if_icmp .ne 10, 3) ∧ decode cX12_fault 21 = .ok (.aload_n 0, 1) ∧ decode cX12_fault 22 = .ok (.getfield 32, 3) ∧ decode cX12_fault 25 = .ok (.goto 4, 3) ∧ decode cX12_fault 28 = .ok (.iconst (-1), 1) ∧ decode cX12_fault 29 = .ok (.ireturn, 1) ∧ True := dkl_ok (c := cX12_fault) [(.iload_n 1, 1), (.iconst 1, 1), (.if_icmp .ne 10, 3), (.aload_n 0, 1), (.getfield 32, 3), (.goto 4, 3), (.iconst (-1), 1), (.ireturn, 1)] 16 (by decide +kernel)
theorem dX12_fault_16 : decode cX12_fault 16 = .ok (.iload_n 1, 1) := eX12_fault_16.1
theorem dX12_fault_17 : decode cX12_fault 17 = .ok (.iconst 1, 1) := eX12_fault_16.2.1
theorem dX12_fault_18 : decode cX12_fault 18 = .ok (.if_icmp .ne 10, 3) := eX12_fault_16.2.2.1
theorem dX12_fault_21 : decode cX12_fault 21 = .ok (.aload_n 0, 1) := eX12_fault_16.2.2.2.1
theorem dX12_fault_22 : decode cX12_fault 22 = .ok (.getfield 32, 3) := eX12_fault_16.2.2.2.2.1
theorem dX12_fault_25 : decode cX12_fault 25 = .ok (.goto 4, 3) := eX12_fault_16.2.2.2.2.2.1
theorem dX12_fault_28 : decode cX12_fault 28 = .ok (.iconst (-1), 1) := eX12_fault_16.2.2.2.2.2.2.1
theorem dX12_fault_29 : decode cX12_fault 29 = .ok (.ireturn, 1) := eX12_fault_16.2.2.2.2.2.2.2.1
theorem eX12_named_0 : decode cX12_named 0 = .ok (.iconst 0, 1) ∧ decode cX12_named 1 = .ok (.istore_n 2, 1) ∧ decode cX12_named 2 = .ok (.iload_n 2, 1) ∧ decode cX12_named 3 = .ok (.aload_n 0, 1) ∧ decode cX12_named 4 = .ok (.getfield 35, 3) ∧ decode cX12_named 7 = .ok (.sipush 930, 3) ∧ decode cX12_named 10 = .ok (.iload_n 1, 1) ∧ decode cX12_named 11 = .ok (.imul, 1) ∧ True := dkl_ok (c := cX12_named) [(.iconst 0, 1), (.istore_n 2, 1), (.iload_n 2, 1), (.aload_n 0, 1), (.getfield 35, 3), (.sipush 930, 3), (.iload_n 1, 1), (.imul, 1)] 0 (by decide +kernel)
theorem dX12_named_0 : decode cX12_named 0 = .ok (.iconst 0, 1) := eX12_named_0.1
theorem dX12_named_1 : decode cX12_named 1 = .ok (.istore_n 2, 1) := eX12_named_0.2.1
theorem dX12_named_2 : decode cX12_named 2 = .ok (.iload_n 2, 1) := eX12_named_0.2.2.1
theorem dX12_named_3 : decode cX12_named 3 = .ok (.aload_n 0, 1) := eX12_named_0.2.2.2.1
theorem dX12_named_4 : decode cX12_named 4 = .ok (.getfield 35, 3) := eX12_named_0.2.2.2.2.1
theorem dX12_named_7 : decode cX12_named 7 = .ok (.sipush 930, 3) := eX12_named_0.2.2.2.2.2.1
theorem dX12_named_10 : decode cX12_named 10 = .ok (.iload_n 1, 1) := eX12_named_0.2.2.2.2.2.2.1
theorem dX12_named_11 : decode cX12_named 11 = .ok (.imul, 1) := eX12_named_0.2.2.2.2.2.2.2.1
theorem eX12_named_12 : decode cX12_named 12 = .ok (.iconst 2, 1) ∧ decode cX12_named 13 = .ok (.iadd, 1) ∧ decode cX12_named 14 = .ok (.iaload, 1) ∧ decode cX12_named 15 = .ok (.if_icmp .ge 30, 3) ∧ decode cX12_named 18 = .ok (.aload_n 0, 1) ∧ decode cX12_named 19 = .ok (.getfield 44, 3) ∧ decode cX12_named 22 = .ok (.bipush 6, 2) ∧ decode cX12_named 24 = .ok (.iload_n 1, 1) ∧ True := dkl_ok (c := cX12_named) [(.iconst 2, 1), (.iadd, 1), (.iaload, 1), (.if_icmp .ge 30, 3), (.aload_n 0, 1), (.getfield 44, 3), (.bipush 6, 2), (.iload_n 1, 1)] 12 (by decide +kernel)
theorem dX12_named_12 : decode cX12_named 12 = .ok (.iconst 2, 1) := eX12_named_12.1
theorem dX12_named_13 : decode cX12_named 13 = .ok (.iadd, 1) := eX12_named_12.2.1
theorem dX12_named_14 : decode cX12_named 14 = .ok (.iaload, 1) := eX12_named_12.2.2.1
theorem dX12_named_15 : decode cX12_named 15 = .ok (.if_icmp .ge 30, 3) := eX12_named_12.2.2.2.1
theorem dX12_named_18 : decode cX12_named 18 = .ok (.aload_n 0, 1) := eX12_named_12.2.2.2.2.1
theorem dX12_named_19 : decode cX12_named 19 = .ok (.getfield 44, 3) := eX12_named_12.2.2.2.2.2.1
theorem dX12_named_22 : decode cX12_named 22 = .ok (.bipush 6, 2) := eX12_named_12.2.2.2.2.2.2.1
theorem dX12_named_24 : decode cX12_named 24 = .ok (.iload_n 1, 1) := eX12_named_12.2.2.2.2.2.2.2.1
theorem eX12_named_25 : decode cX12_named 25 = .ok (.imul, 1) ∧ decode cX12_named 26 = .ok (.iload_n 2, 1) ∧ decode cX12_named 27 = .ok (.iadd, 1) ∧ decode cX12_named 28 = .ok (.laload, 1) ∧ decode cX12_named 29 = .ok (.aload_n 0, 1) ∧ decode cX12_named 30 = .ok (.getfield 116, 3) ∧ decode cX12_named 33 = .ok (.lcmp, 1) ∧ decode cX12_named 34 = .ok (.ifCond .ne 5, 3) ∧ True := dkl_ok (c := cX12_named) [(.imul, 1), (.iload_n 2, 1), (.iadd, 1), (.laload, 1), (.aload_n 0, 1), (.getfield 116, 3), (.lcmp, 1), (.ifCond .ne 5, 3)] 25 (by decide +kernel)
theorem dX12_named_25 : decode cX12_named 25 = .ok (.imul, 1) := eX12_named_25.1
theorem dX12_named_26 : decode cX12_named 26 = .ok (.iload_n 2, 1) := eX12_named_25.2.1
theorem dX12_named_27 : decode cX12_named 27 = .ok (.iadd, 1) := eX12_named_25.2.2.1
theorem dX12_named_28 : decode cX12_named 28 = .ok (.laload, 1) := eX12_named_25.2.2.2.1
theorem dX12_named_29 : decode cX12_named 29 = .ok (.aload_n 0, 1) := eX12_named_25.2.2.2.2.1
theorem dX12_named_30 : decode cX12_named 30 = .ok (.getfield 116, 3) := eX12_named_25.2.2.2.2.2.1
theorem dX12_named_33 : decode cX12_named 33 = .ok (.lcmp, 1) := eX12_named_25.2.2.2.2.2.2.1
theorem dX12_named_34 : decode cX12_named 34 = .ok (.ifCond .ne 5, 3) := eX12_named_25.2.2.2.2.2.2.2.1
theorem eX12_named_37 : decode cX12_named 37 = .ok (.iload_n 2, 1) ∧ decode cX12_named 38 = .ok (.ireturn, 1) ∧ decode cX12_named 39 = .ok (.iinc 2 1, 3) ∧ decode cX12_named 42 = .ok (.goto (-40), 3) ∧ decode cX12_named 45 = .ok (.iconst (-1), 1) ∧ decode cX12_named 46 = .ok (.ireturn, 1) ∧ True := dkl_ok (c := cX12_named) [(.iload_n 2, 1), (.ireturn, 1), (.iinc 2 1, 3), (.goto (-40), 3), (.iconst (-1), 1), (.ireturn, 1)] 37 (by decide +kernel)
theorem dX12_named_37 : decode cX12_named 37 = .ok (.iload_n 2, 1) := eX12_named_37.1
theorem dX12_named_38 : decode cX12_named 38 = .ok (.ireturn, 1) := eX12_named_37.2.1
theorem dX12_named_39 : decode cX12_named 39 = .ok (.iinc 2 1, 3) := eX12_named_37.2.2.1
theorem dX12_named_42 : decode cX12_named 42 = .ok (.goto (-40), 3) := eX12_named_37.2.2.2.1
theorem dX12_named_45 : decode cX12_named 45 = .ok (.iconst (-1), 1) := eX12_named_37.2.2.2.2.1
theorem dX12_named_46 : decode cX12_named 46 = .ok (.ireturn, 1) := eX12_named_37.2.2.2.2.2.1
theorem eX12_readTold_0 : decode cX12_readTold 0 = .ok (.aload_n 0, 1) ∧ decode cX12_readTold 1 = .ok (.getfield 187, 3) ∧ decode cX12_readTold 4 = .ok (.ifCond .ne 14, 3) ∧ decode cX12_readTold 7 = .ok (.aload_n 0, 1) ∧ decode cX12_readTold 8 = .ok (.invokevirtual 210, 3) ∧ decode cX12_readTold 11 = .ok (.ifCond .ne 7, 3) ∧ decode cX12_readTold 14 = .ok (.aload_n 0, 1) ∧ decode cX12_readTold 15 = .ok (.invokevirtual 200, 3) ∧ True := dkl_ok (c := cX12_readTold) [(.aload_n 0, 1), (.getfield 187, 3), (.ifCond .ne 14, 3), (.aload_n 0, 1), (.invokevirtual 210, 3), (.ifCond .ne 7, 3), (.aload_n 0, 1), (.invokevirtual 200, 3)] 0 (by decide +kernel)
theorem dX12_readTold_0 : decode cX12_readTold 0 = .ok (.aload_n 0, 1) := eX12_readTold_0.1
theorem dX12_readTold_1 : decode cX12_readTold 1 = .ok (.getfield 187, 3) := eX12_readTold_0.2.1
theorem dX12_readTold_4 : decode cX12_readTold 4 = .ok (.ifCond .ne 14, 3) := eX12_readTold_0.2.2.1
theorem dX12_readTold_7 : decode cX12_readTold 7 = .ok (.aload_n 0, 1) := eX12_readTold_0.2.2.2.1
theorem dX12_readTold_8 : decode cX12_readTold 8 = .ok (.invokevirtual 210, 3) := eX12_readTold_0.2.2.2.2.1
theorem dX12_readTold_11 : decode cX12_readTold 11 = .ok (.ifCond .ne 7, 3) := eX12_readTold_0.2.2.2.2.2.1
theorem dX12_readTold_14 : decode cX12_readTold 14 = .ok (.aload_n 0, 1) := eX12_readTold_0.2.2.2.2.2.2.1
theorem dX12_readTold_15 : decode cX12_readTold 15 = .ok (.invokevirtual 200, 3) := eX12_readTold_0.2.2.2.2.2.2.2.1
theorem eX12_readTold_18 : decode cX12_readTold 18 = .ok (.aload_n 0, 1) ∧ decode cX12_readTold 19 = .ok (.getfield 187, 3) ∧ decode cX12_readTold 22 = .ok (.ifCond .ne 11, 3) ∧ decode cX12_readTold 25 = .ok (.aload_n 0, 1) ∧ decode cX12_readTold 26 = .ok (.iload_n 1, 1) ∧ decode cX12_readTold 27 = .ok (.invokevirtual 213, 3) ∧ decode cX12_readTold 30 = .ok (.goto 4, 3) ∧ decode cX12_readTold 33 = .ok (.iconst 0, 1) ∧ True := dkl_ok (c := cX12_readTold) [(.aload_n 0, 1), (.getfield 187, 3), (.ifCond .ne 11, 3), (.aload_n 0, 1), (.iload_n 1, 1), (.invokevirtual 213, 3), (.goto 4, 3), (.iconst 0, 1)] 18 (by decide +kernel)
theorem dX12_readTold_18 : decode cX12_readTold 18 = .ok (.aload_n 0, 1) := eX12_readTold_18.1
theorem dX12_readTold_19 : decode cX12_readTold 19 = .ok (.getfield 187, 3) := eX12_readTold_18.2.1
theorem dX12_readTold_22 : decode cX12_readTold 22 = .ok (.ifCond .ne 11, 3) := eX12_readTold_18.2.2.1
theorem dX12_readTold_25 : decode cX12_readTold 25 = .ok (.aload_n 0, 1) := eX12_readTold_18.2.2.2.1
theorem dX12_readTold_26 : decode cX12_readTold 26 = .ok (.iload_n 1, 1) := eX12_readTold_18.2.2.2.2.1
theorem dX12_readTold_27 : decode cX12_readTold 27 = .ok (.invokevirtual 213, 3) := eX12_readTold_18.2.2.2.2.2.1
theorem dX12_readTold_30 : decode cX12_readTold 30 = .ok (.goto 4, 3) := eX12_readTold_18.2.2.2.2.2.2.1
theorem dX12_readTold_33 : decode cX12_readTold 33 = .ok (.iconst 0, 1) := eX12_readTold_18.2.2.2.2.2.2.2.1
theorem eX12_readTold_34 : decode cX12_readTold 34 = .ok (.istore_n 2, 1) ∧ decode cX12_readTold 35 = .ok (.aload_n 0, 1) ∧ decode cX12_readTold 36 = .ok (.getfield 187, 3) ∧ decode cX12_readTold 39 = .ok (.ifCond .ne 16, 3) ∧ decode cX12_readTold 42 = .ok (.iload_n 2, 1) ∧ decode cX12_readTold 43 = .ok (.ifCond .ge 12, 3) ∧ decode cX12_readTold 46 = .ok (.aload_n 0, 1) ∧ decode cX12_readTold 47 = .ok (.iconst 3, 1) ∧ True := dkl_ok (c := cX12_readTold) [(.istore_n 2, 1), (.aload_n 0, 1), (.getfield 187, 3), (.ifCond .ne 16, 3), (.iload_n 2, 1), (.ifCond .ge 12, 3), (.aload_n 0, 1), (.iconst 3, 1)] 34 (by decide +kernel)
theorem dX12_readTold_34 : decode cX12_readTold 34 = .ok (.istore_n 2, 1) := eX12_readTold_34.1
theorem dX12_readTold_35 : decode cX12_readTold 35 = .ok (.aload_n 0, 1) := eX12_readTold_34.2.1
theorem dX12_readTold_36 : decode cX12_readTold 36 = .ok (.getfield 187, 3) := eX12_readTold_34.2.2.1
theorem dX12_readTold_39 : decode cX12_readTold 39 = .ok (.ifCond .ne 16, 3) := eX12_readTold_34.2.2.2.1
theorem dX12_readTold_42 : decode cX12_readTold 42 = .ok (.iload_n 2, 1) := eX12_readTold_34.2.2.2.2.1
theorem dX12_readTold_43 : decode cX12_readTold 43 = .ok (.ifCond .ge 12, 3) := eX12_readTold_34.2.2.2.2.2.1
theorem dX12_readTold_46 : decode cX12_readTold 46 = .ok (.aload_n 0, 1) := eX12_readTold_34.2.2.2.2.2.2.1
theorem dX12_readTold_47 : decode cX12_readTold 47 = .ok (.iconst 3, 1) := eX12_readTold_34.2.2.2.2.2.2.2.1
theorem eX12_readTold_48 : decode cX12_readTold 48 = .ok (.aload_n 0, 1) ∧ decode cX12_readTold 49 = .ok (.getfield 104, 3) ∧ decode cX12_readTold 52 = .ok (.invokevirtual 193, 3) ∧ decode cX12_readTold 55 = .ok (.aload_n 0, 1) ∧ decode cX12_readTold 56 = .ok (.iconst 1, 1) ∧ decode cX12_readTold 57 = .ok (.invokevirtual 216, 3) ∧ decode cX12_readTold 60 = .ok (.iconst 0, 1) ∧ decode cX12_readTold 61 = .ok (.iload_n 2, 1) ∧ True := dkl_ok (c := cX12_readTold) [(.aload_n 0, 1), (.getfield 104, 3), (.invokevirtual 193, 3), (.aload_n 0, 1), (.iconst 1, 1), (.invokevirtual 216, 3), (.iconst 0, 1), (.iload_n 2, 1)] 48 (by decide +kernel)
theorem dX12_readTold_48 : decode cX12_readTold 48 = .ok (.aload_n 0, 1) := eX12_readTold_48.1
theorem dX12_readTold_49 : decode cX12_readTold 49 = .ok (.getfield 104, 3) := eX12_readTold_48.2.1
theorem dX12_readTold_52 : decode cX12_readTold 52 = .ok (.invokevirtual 193, 3) := eX12_readTold_48.2.2.1
theorem dX12_readTold_55 : decode cX12_readTold 55 = .ok (.aload_n 0, 1) := eX12_readTold_48.2.2.2.1
theorem dX12_readTold_56 : decode cX12_readTold 56 = .ok (.iconst 1, 1) := eX12_readTold_48.2.2.2.2.1
theorem dX12_readTold_57 : decode cX12_readTold 57 = .ok (.invokevirtual 216, 3) := eX12_readTold_48.2.2.2.2.2.1
theorem dX12_readTold_60 : decode cX12_readTold 60 = .ok (.iconst 0, 1) := eX12_readTold_48.2.2.2.2.2.2.1
theorem dX12_readTold_61 : decode cX12_readTold 61 = .ok (.iload_n 2, 1) := eX12_readTold_48.2.2.2.2.2.2.2.1
theorem eX12_readTold_62 : decode cX12_readTold 62 = .ok (.invokestatic 220, 3) ∧ decode cX12_readTold 65 = .ok (.ireturn, 1) ∧ True := dkl_ok (c := cX12_readTold) [(.invokestatic 220, 3), (.ireturn, 1)] 62 (by decide +kernel)
theorem dX12_readTold_62 : decode cX12_readTold 62 = .ok (.invokestatic 220, 3) := eX12_readTold_62.1
theorem dX12_readTold_65 : decode cX12_readTold 65 = .ok (.ireturn, 1) := eX12_readTold_62.2.1
theorem eX12_readPlayer_0 : decode cX12_readPlayer 0 = .ok (.aload_n 0, 1) ∧ decode cX12_readPlayer 1 = .ok (.getfield 35, 3) ∧ decode cX12_readPlayer 4 = .ok (.sipush 3722, 3) ∧ decode cX12_readPlayer 7 = .ok (.iaload, 1) ∧ decode cX12_readPlayer 8 = .ok (.istore_n 1, 1) ∧ decode cX12_readPlayer 9 = .ok (.iload_n 1, 1) ∧ decode cX12_readPlayer 10 = .ok (.bipush 6, 2) ∧ decode cX12_readPlayer 12 = .ok (.if_icmp .ne 13, 3) ∧ True := dkl_ok (c := cX12_readPlayer) [(.aload_n 0, 1), (.getfield 35, 3), (.sipush 3722, 3), (.iaload, 1), (.istore_n 1, 1), (.iload_n 1, 1), (.bipush 6, 2), (.if_icmp .ne 13, 3)] 0 (by decide +kernel)
theorem dX12_readPlayer_0 : decode cX12_readPlayer 0 = .ok (.aload_n 0, 1) := eX12_readPlayer_0.1
theorem dX12_readPlayer_1 : decode cX12_readPlayer 1 = .ok (.getfield 35, 3) := eX12_readPlayer_0.2.1
theorem dX12_readPlayer_4 : decode cX12_readPlayer 4 = .ok (.sipush 3722, 3) := eX12_readPlayer_0.2.2.1
theorem dX12_readPlayer_7 : decode cX12_readPlayer 7 = .ok (.iaload, 1) := eX12_readPlayer_0.2.2.2.1
theorem dX12_readPlayer_8 : decode cX12_readPlayer 8 = .ok (.istore_n 1, 1) := eX12_readPlayer_0.2.2.2.2.1
theorem dX12_readPlayer_9 : decode cX12_readPlayer 9 = .ok (.iload_n 1, 1) := eX12_readPlayer_0.2.2.2.2.2.1
theorem dX12_readPlayer_10 : decode cX12_readPlayer 10 = .ok (.bipush 6, 2) := eX12_readPlayer_0.2.2.2.2.2.2.1
theorem dX12_readPlayer_12 : decode cX12_readPlayer 12 = .ok (.if_icmp .ne 13, 3) := eX12_readPlayer_0.2.2.2.2.2.2.2.1
theorem eX12_readPlayer_15 : decode cX12_readPlayer 15 = .ok (.aload_n 0, 1) ∧ decode cX12_readPlayer 16 = .ok (.bipush 6, 2) ∧ decode cX12_readPlayer 18 = .ok (.aload_n 0, 1) ∧ decode cX12_readPlayer 19 = .ok (.getfield 104, 3) ∧ decode cX12_readPlayer 22 = .ok (.invokevirtual 193, 3) ∧ decode cX12_readPlayer 25 = .ok (.aload_n 0, 1) ∧ decode cX12_readPlayer 26 = .ok (.getfield 187, 3) ∧ decode cX12_readPlayer 29 = .ok (.ifCond .le 4, 3) ∧ True := dkl_ok (c := cX12_readPlayer) [(.aload_n 0, 1), (.bipush 6, 2), (.aload_n 0, 1), (.getfield 104, 3), (.invokevirtual 193, 3), (.aload_n 0, 1), (.getfield 187, 3), (.ifCond .le 4, 3)] 15 (by decide +kernel)
theorem dX12_readPlayer_15 : decode cX12_readPlayer 15 = .ok (.aload_n 0, 1) := eX12_readPlayer_15.1
theorem dX12_readPlayer_16 : decode cX12_readPlayer 16 = .ok (.bipush 6, 2) := eX12_readPlayer_15.2.1
theorem dX12_readPlayer_18 : decode cX12_readPlayer 18 = .ok (.aload_n 0, 1) := eX12_readPlayer_15.2.2.1
theorem dX12_readPlayer_19 : decode cX12_readPlayer 19 = .ok (.getfield 104, 3) := eX12_readPlayer_15.2.2.2.1
theorem dX12_readPlayer_22 : decode cX12_readPlayer 22 = .ok (.invokevirtual 193, 3) := eX12_readPlayer_15.2.2.2.2.1
theorem dX12_readPlayer_25 : decode cX12_readPlayer 25 = .ok (.aload_n 0, 1) := eX12_readPlayer_15.2.2.2.2.2.1
theorem dX12_readPlayer_26 : decode cX12_readPlayer 26 = .ok (.getfield 187, 3) := eX12_readPlayer_15.2.2.2.2.2.2.1
theorem dX12_readPlayer_29 : decode cX12_readPlayer 29 = .ok (.ifCond .le 4, 3) := eX12_readPlayer_15.2.2.2.2.2.2.2.1
theorem eX12_readPlayer_32 : decode cX12_readPlayer 32 = .ok (.return_, 1) ∧ decode cX12_readPlayer 33 = .ok (.aload_n 0, 1) ∧ decode cX12_readPlayer 34 = .ok (.invokevirtual 197, 3) ∧ decode cX12_readPlayer 37 = .ok (.aload_n 0, 1) ∧ decode cX12_readPlayer 38 = .ok (.invokevirtual 210, 3) ∧ decode cX12_readPlayer 41 = .ok (.ifCond .ne 7, 3) ∧ decode cX12_readPlayer 44 = .ok (.aload_n 0, 1) ∧ decode cX12_readPlayer 45 = .ok (.invokevirtual 200, 3) ∧ True := dkl_ok (c := cX12_readPlayer) [(.return_, 1), (.aload_n 0, 1), (.invokevirtual 197, 3), (.aload_n 0, 1), (.invokevirtual 210, 3), (.ifCond .ne 7, 3), (.aload_n 0, 1), (.invokevirtual 200, 3)] 32 (by decide +kernel)
theorem dX12_readPlayer_32 : decode cX12_readPlayer 32 = .ok (.return_, 1) := eX12_readPlayer_32.1
theorem dX12_readPlayer_33 : decode cX12_readPlayer 33 = .ok (.aload_n 0, 1) := eX12_readPlayer_32.2.1
theorem dX12_readPlayer_34 : decode cX12_readPlayer 34 = .ok (.invokevirtual 197, 3) := eX12_readPlayer_32.2.2.1
theorem dX12_readPlayer_37 : decode cX12_readPlayer 37 = .ok (.aload_n 0, 1) := eX12_readPlayer_32.2.2.2.1
theorem dX12_readPlayer_38 : decode cX12_readPlayer 38 = .ok (.invokevirtual 210, 3) := eX12_readPlayer_32.2.2.2.2.1
theorem dX12_readPlayer_41 : decode cX12_readPlayer 41 = .ok (.ifCond .ne 7, 3) := eX12_readPlayer_32.2.2.2.2.2.1
theorem dX12_readPlayer_44 : decode cX12_readPlayer 44 = .ok (.aload_n 0, 1) := eX12_readPlayer_32.2.2.2.2.2.2.1
theorem dX12_readPlayer_45 : decode cX12_readPlayer 45 = .ok (.invokevirtual 200, 3) := eX12_readPlayer_32.2.2.2.2.2.2.2.1
theorem eX12_readPlayer_48 : decode cX12_readPlayer 48 = .ok (.aload_n 0, 1) ∧ decode cX12_readPlayer 49 = .ok (.getfield 187, 3) ∧ decode cX12_readPlayer 52 = .ok (.ifCond .ne 20, 3) ∧ decode cX12_readPlayer 55 = .ok (.aload_n 0, 1) ∧ decode cX12_readPlayer 56 = .ok (.iconst 4, 1) ∧ decode cX12_readPlayer 57 = .ok (.invokevirtual 213, 3) ∧ decode cX12_readPlayer 60 = .ok (.ifCond .lt 12, 3) ∧ decode cX12_readPlayer 63 = .ok (.aload_n 0, 1) ∧ True := dkl_ok (c := cX12_readPlayer) [(.aload_n 0, 1), (.getfield 187, 3), (.ifCond .ne 20, 3), (.aload_n 0, 1), (.iconst 4, 1), (.invokevirtual 213, 3), (.ifCond .lt 12, 3), (.aload_n 0, 1)] 48 (by decide +kernel)
theorem dX12_readPlayer_48 : decode cX12_readPlayer 48 = .ok (.aload_n 0, 1) := eX12_readPlayer_48.1
theorem dX12_readPlayer_49 : decode cX12_readPlayer 49 = .ok (.getfield 187, 3) := eX12_readPlayer_48.2.1
theorem dX12_readPlayer_52 : decode cX12_readPlayer 52 = .ok (.ifCond .ne 20, 3) := eX12_readPlayer_48.2.2.1
theorem dX12_readPlayer_55 : decode cX12_readPlayer 55 = .ok (.aload_n 0, 1) := eX12_readPlayer_48.2.2.2.1
theorem dX12_readPlayer_56 : decode cX12_readPlayer 56 = .ok (.iconst 4, 1) := eX12_readPlayer_48.2.2.2.2.1
theorem dX12_readPlayer_57 : decode cX12_readPlayer 57 = .ok (.invokevirtual 213, 3) := eX12_readPlayer_48.2.2.2.2.2.1
theorem dX12_readPlayer_60 : decode cX12_readPlayer 60 = .ok (.ifCond .lt 12, 3) := eX12_readPlayer_48.2.2.2.2.2.2.1
theorem dX12_readPlayer_63 : decode cX12_readPlayer 63 = .ok (.aload_n 0, 1) := eX12_readPlayer_48.2.2.2.2.2.2.2.1
theorem eX12_readPlayer_64 : decode cX12_readPlayer 64 = .ok (.iconst 3, 1) ∧ decode cX12_readPlayer 65 = .ok (.aload_n 0, 1) ∧ decode cX12_readPlayer 66 = .ok (.getfield 104, 3) ∧ decode cX12_readPlayer 69 = .ok (.invokevirtual 193, 3) ∧ decode cX12_readPlayer 72 = .ok (.aload_n 0, 1) ∧ decode cX12_readPlayer 73 = .ok (.getfield 187, 3) ∧ decode cX12_readPlayer 76 = .ok (.ifCond .le 4, 3) ∧ decode cX12_readPlayer 79 = .ok (.return_, 1) ∧ True := dkl_ok (c := cX12_readPlayer) [(.iconst 3, 1), (.aload_n 0, 1), (.getfield 104, 3), (.invokevirtual 193, 3), (.aload_n 0, 1), (.getfield 187, 3), (.ifCond .le 4, 3), (.return_, 1)] 64 (by decide +kernel)
theorem dX12_readPlayer_64 : decode cX12_readPlayer 64 = .ok (.iconst 3, 1) := eX12_readPlayer_64.1
theorem dX12_readPlayer_65 : decode cX12_readPlayer 65 = .ok (.aload_n 0, 1) := eX12_readPlayer_64.2.1
theorem dX12_readPlayer_66 : decode cX12_readPlayer 66 = .ok (.getfield 104, 3) := eX12_readPlayer_64.2.2.1
theorem dX12_readPlayer_69 : decode cX12_readPlayer 69 = .ok (.invokevirtual 193, 3) := eX12_readPlayer_64.2.2.2.1
theorem dX12_readPlayer_72 : decode cX12_readPlayer 72 = .ok (.aload_n 0, 1) := eX12_readPlayer_64.2.2.2.2.1
theorem dX12_readPlayer_73 : decode cX12_readPlayer 73 = .ok (.getfield 187, 3) := eX12_readPlayer_64.2.2.2.2.2.1
theorem dX12_readPlayer_76 : decode cX12_readPlayer 76 = .ok (.ifCond .le 4, 3) := eX12_readPlayer_64.2.2.2.2.2.2.1
theorem dX12_readPlayer_79 : decode cX12_readPlayer 79 = .ok (.return_, 1) := eX12_readPlayer_64.2.2.2.2.2.2.2.1
theorem eX12_readPlayer_80 : decode cX12_readPlayer 80 = .ok (.aload_n 0, 1) ∧ decode cX12_readPlayer 81 = .ok (.getfield 44, 3) ∧ decode cX12_readPlayer 84 = .ok (.bipush 24, 2) ∧ decode cX12_readPlayer 86 = .ok (.iload_n 1, 1) ∧ decode cX12_readPlayer 87 = .ok (.iadd, 1) ∧ decode cX12_readPlayer 88 = .ok (.aload_n 0, 1) ∧ decode cX12_readPlayer 89 = .ok (.getfield 116, 3) ∧ decode cX12_readPlayer 92 = .ok (.lastore, 1) ∧ True := dkl_ok (c := cX12_readPlayer) [(.aload_n 0, 1), (.getfield 44, 3), (.bipush 24, 2), (.iload_n 1, 1), (.iadd, 1), (.aload_n 0, 1), (.getfield 116, 3), (.lastore, 1)] 80 (by decide +kernel)
theorem dX12_readPlayer_80 : decode cX12_readPlayer 80 = .ok (.aload_n 0, 1) := eX12_readPlayer_80.1
theorem dX12_readPlayer_81 : decode cX12_readPlayer 81 = .ok (.getfield 44, 3) := eX12_readPlayer_80.2.1
theorem dX12_readPlayer_84 : decode cX12_readPlayer 84 = .ok (.bipush 24, 2) := eX12_readPlayer_80.2.2.1
theorem dX12_readPlayer_86 : decode cX12_readPlayer 86 = .ok (.iload_n 1, 1) := eX12_readPlayer_80.2.2.2.1
theorem dX12_readPlayer_87 : decode cX12_readPlayer 87 = .ok (.iadd, 1) := eX12_readPlayer_80.2.2.2.2.1
theorem dX12_readPlayer_88 : decode cX12_readPlayer 88 = .ok (.aload_n 0, 1) := eX12_readPlayer_80.2.2.2.2.2.1
theorem dX12_readPlayer_89 : decode cX12_readPlayer 89 = .ok (.getfield 116, 3) := eX12_readPlayer_80.2.2.2.2.2.2.1
theorem dX12_readPlayer_92 : decode cX12_readPlayer 92 = .ok (.lastore, 1) := eX12_readPlayer_80.2.2.2.2.2.2.2.1
theorem eX12_readPlayer_93 : decode cX12_readPlayer 93 = .ok (.aload_n 0, 1) ∧ decode cX12_readPlayer 94 = .ok (.invokevirtual 197, 3) ∧ decode cX12_readPlayer 97 = .ok (.aload_n 0, 1) ∧ decode cX12_readPlayer 98 = .ok (.invokevirtual 143, 3) ∧ decode cX12_readPlayer 101 = .ok (.ifCond .eq 24, 3) ∧ decode cX12_readPlayer 104 = .ok (.aload_n 0, 1) ∧ decode cX12_readPlayer 105 = .ok (.invokevirtual 197, 3) ∧ decode cX12_readPlayer 108 = .ok (.aload_n 0, 1) ∧ True := dkl_ok (c := cX12_readPlayer) [(.aload_n 0, 1), (.invokevirtual 197, 3), (.aload_n 0, 1), (.invokevirtual 143, 3), (.ifCond .eq 24, 3), (.aload_n 0, 1), (.invokevirtual 197, 3), (.aload_n 0, 1)] 93 (by decide +kernel)
theorem dX12_readPlayer_93 : decode cX12_readPlayer 93 = .ok (.aload_n 0, 1) := eX12_readPlayer_93.1
theorem dX12_readPlayer_94 : decode cX12_readPlayer 94 = .ok (.invokevirtual 197, 3) := eX12_readPlayer_93.2.1
theorem dX12_readPlayer_97 : decode cX12_readPlayer 97 = .ok (.aload_n 0, 1) := eX12_readPlayer_93.2.2.1
theorem dX12_readPlayer_98 : decode cX12_readPlayer 98 = .ok (.invokevirtual 143, 3) := eX12_readPlayer_93.2.2.2.1
theorem dX12_readPlayer_101 : decode cX12_readPlayer 101 = .ok (.ifCond .eq 24, 3) := eX12_readPlayer_93.2.2.2.2.1
theorem dX12_readPlayer_104 : decode cX12_readPlayer 104 = .ok (.aload_n 0, 1) := eX12_readPlayer_93.2.2.2.2.2.1
theorem dX12_readPlayer_105 : decode cX12_readPlayer 105 = .ok (.invokevirtual 197, 3) := eX12_readPlayer_93.2.2.2.2.2.2.1
theorem dX12_readPlayer_108 : decode cX12_readPlayer 108 = .ok (.aload_n 0, 1) := eX12_readPlayer_93.2.2.2.2.2.2.2.1
theorem eX12_readPlayer_109 : decode cX12_readPlayer 109 = .ok (.getfield 35, 3) ∧ decode cX12_readPlayer 112 = .ok (.sipush 3730, 3) ∧ decode cX12_readPlayer 115 = .ok (.iload_n 1, 1) ∧ decode cX12_readPlayer 116 = .ok (.iadd, 1) ∧ decode cX12_readPlayer 117 = .ok (.aload_n 0, 1) ∧ decode cX12_readPlayer 118 = .ok (.iconst 0, 1) ∧ decode cX12_readPlayer 119 = .ok (.bipush 16, 2) ∧ decode cX12_readPlayer 121 = .ok (.invokevirtual 223, 3) ∧ True := dkl_ok (c := cX12_readPlayer) [(.getfield 35, 3), (.sipush 3730, 3), (.iload_n 1, 1), (.iadd, 1), (.aload_n 0, 1), (.iconst 0, 1), (.bipush 16, 2), (.invokevirtual 223, 3)] 109 (by decide +kernel)
theorem dX12_readPlayer_109 : decode cX12_readPlayer 109 = .ok (.getfield 35, 3) := eX12_readPlayer_109.1
theorem dX12_readPlayer_112 : decode cX12_readPlayer 112 = .ok (.sipush 3730, 3) := eX12_readPlayer_109.2.1
theorem dX12_readPlayer_115 : decode cX12_readPlayer 115 = .ok (.iload_n 1, 1) := eX12_readPlayer_109.2.2.1
theorem dX12_readPlayer_116 : decode cX12_readPlayer 116 = .ok (.iadd, 1) := eX12_readPlayer_109.2.2.2.1
theorem dX12_readPlayer_117 : decode cX12_readPlayer 117 = .ok (.aload_n 0, 1) := eX12_readPlayer_109.2.2.2.2.1
theorem dX12_readPlayer_118 : decode cX12_readPlayer 118 = .ok (.iconst 0, 1) := eX12_readPlayer_109.2.2.2.2.2.1
theorem dX12_readPlayer_119 : decode cX12_readPlayer 119 = .ok (.bipush 16, 2) := eX12_readPlayer_109.2.2.2.2.2.2.1
theorem dX12_readPlayer_121 : decode cX12_readPlayer 121 = .ok (.invokevirtual 223, 3) := eX12_readPlayer_109.2.2.2.2.2.2.2.1
theorem eX12_readPlayer_124 : decode cX12_readPlayer 124 = .ok (.iastore, 1) ∧ decode cX12_readPlayer 125 = .ok (.aload_n 0, 1) ∧ decode cX12_readPlayer 126 = .ok (.getfield 187, 3) ∧ decode cX12_readPlayer 129 = .ok (.ifCond .ne 31, 3) ∧ decode cX12_readPlayer 132 = .ok (.aload_n 0, 1) ∧ decode cX12_readPlayer 133 = .ok (.invokevirtual 147, 3) ∧ decode cX12_readPlayer 136 = .ok (.ifCond .eq 24, 3) ∧ decode cX12_readPlayer 139 = .ok (.aload_n 0, 1) ∧ True := dkl_ok (c := cX12_readPlayer) [(.iastore, 1), (.aload_n 0, 1), (.getfield 187, 3), (.ifCond .ne 31, 3), (.aload_n 0, 1), (.invokevirtual 147, 3), (.ifCond .eq 24, 3), (.aload_n 0, 1)] 124 (by decide +kernel)
theorem dX12_readPlayer_124 : decode cX12_readPlayer 124 = .ok (.iastore, 1) := eX12_readPlayer_124.1
theorem dX12_readPlayer_125 : decode cX12_readPlayer 125 = .ok (.aload_n 0, 1) := eX12_readPlayer_124.2.1
theorem dX12_readPlayer_126 : decode cX12_readPlayer 126 = .ok (.getfield 187, 3) := eX12_readPlayer_124.2.2.1
theorem dX12_readPlayer_129 : decode cX12_readPlayer 129 = .ok (.ifCond .ne 31, 3) := eX12_readPlayer_124.2.2.2.1
theorem dX12_readPlayer_132 : decode cX12_readPlayer 132 = .ok (.aload_n 0, 1) := eX12_readPlayer_124.2.2.2.2.1
theorem dX12_readPlayer_133 : decode cX12_readPlayer 133 = .ok (.invokevirtual 147, 3) := eX12_readPlayer_124.2.2.2.2.2.1
theorem dX12_readPlayer_136 : decode cX12_readPlayer 136 = .ok (.ifCond .eq 24, 3) := eX12_readPlayer_124.2.2.2.2.2.2.1
theorem dX12_readPlayer_139 : decode cX12_readPlayer 139 = .ok (.aload_n 0, 1) := eX12_readPlayer_124.2.2.2.2.2.2.2.1
theorem eX12_readPlayer_140 : decode cX12_readPlayer 140 = .ok (.invokevirtual 197, 3) ∧ decode cX12_readPlayer 143 = .ok (.aload_n 0, 1) ∧ decode cX12_readPlayer 144 = .ok (.getfield 35, 3) ∧ decode cX12_readPlayer 147 = .ok (.sipush 3736, 3) ∧ decode cX12_readPlayer 150 = .ok (.iload_n 1, 1) ∧ decode cX12_readPlayer 151 = .ok (.iadd, 1) ∧ decode cX12_readPlayer 152 = .ok (.aload_n 0, 1) ∧ decode cX12_readPlayer 153 = .ok (.iconst 0, 1) ∧ True := dkl_ok (c := cX12_readPlayer) [(.invokevirtual 197, 3), (.aload_n 0, 1), (.getfield 35, 3), (.sipush 3736, 3), (.iload_n 1, 1), (.iadd, 1), (.aload_n 0, 1), (.iconst 0, 1)] 140 (by decide +kernel)
theorem dX12_readPlayer_140 : decode cX12_readPlayer 140 = .ok (.invokevirtual 197, 3) := eX12_readPlayer_140.1
theorem dX12_readPlayer_143 : decode cX12_readPlayer 143 = .ok (.aload_n 0, 1) := eX12_readPlayer_140.2.1
theorem dX12_readPlayer_144 : decode cX12_readPlayer 144 = .ok (.getfield 35, 3) := eX12_readPlayer_140.2.2.1
theorem dX12_readPlayer_147 : decode cX12_readPlayer 147 = .ok (.sipush 3736, 3) := eX12_readPlayer_140.2.2.2.1
theorem dX12_readPlayer_150 : decode cX12_readPlayer 150 = .ok (.iload_n 1, 1) := eX12_readPlayer_140.2.2.2.2.1
theorem dX12_readPlayer_151 : decode cX12_readPlayer 151 = .ok (.iadd, 1) := eX12_readPlayer_140.2.2.2.2.2.1
theorem dX12_readPlayer_152 : decode cX12_readPlayer 152 = .ok (.aload_n 0, 1) := eX12_readPlayer_140.2.2.2.2.2.2.1
theorem dX12_readPlayer_153 : decode cX12_readPlayer 153 = .ok (.iconst 0, 1) := eX12_readPlayer_140.2.2.2.2.2.2.2.1
theorem eX12_readPlayer_154 : decode cX12_readPlayer 154 = .ok (.bipush 16, 2) ∧ decode cX12_readPlayer 156 = .ok (.invokevirtual 223, 3) ∧ decode cX12_readPlayer 159 = .ok (.iastore, 1) ∧ decode cX12_readPlayer 160 = .ok (.aload_n 0, 1) ∧ decode cX12_readPlayer 161 = .ok (.getfield 187, 3) ∧ decode cX12_readPlayer 164 = .ok (.ifCond .ne 15, 3) ∧ decode cX12_readPlayer 167 = .ok (.aload_n 0, 1) ∧ decode cX12_readPlayer 168 = .ok (.getfield 35, 3) ∧ True := dkl_ok (c := cX12_readPlayer) [(.bipush 16, 2), (.invokevirtual 223, 3), (.iastore, 1), (.aload_n 0, 1), (.getfield 187, 3), (.ifCond .ne 15, 3), (.aload_n 0, 1), (.getfield 35, 3)] 154 (by decide +kernel)
theorem dX12_readPlayer_154 : decode cX12_readPlayer 154 = .ok (.bipush 16, 2) := eX12_readPlayer_154.1
theorem dX12_readPlayer_156 : decode cX12_readPlayer 156 = .ok (.invokevirtual 223, 3) := eX12_readPlayer_154.2.1
theorem dX12_readPlayer_159 : decode cX12_readPlayer 159 = .ok (.iastore, 1) := eX12_readPlayer_154.2.2.1
theorem dX12_readPlayer_160 : decode cX12_readPlayer 160 = .ok (.aload_n 0, 1) := eX12_readPlayer_154.2.2.2.1
theorem dX12_readPlayer_161 : decode cX12_readPlayer 161 = .ok (.getfield 187, 3) := eX12_readPlayer_154.2.2.2.2.1
theorem dX12_readPlayer_164 : decode cX12_readPlayer 164 = .ok (.ifCond .ne 15, 3) := eX12_readPlayer_154.2.2.2.2.2.1
theorem dX12_readPlayer_167 : decode cX12_readPlayer 167 = .ok (.aload_n 0, 1) := eX12_readPlayer_154.2.2.2.2.2.2.1
theorem dX12_readPlayer_168 : decode cX12_readPlayer 168 = .ok (.getfield 35, 3) := eX12_readPlayer_154.2.2.2.2.2.2.2.1
theorem eX12_readPlayer_171 : decode cX12_readPlayer 171 = .ok (.sipush 3722, 3) ∧ decode cX12_readPlayer 174 = .ok (.dup2, 1) ∧ decode cX12_readPlayer 175 = .ok (.iaload, 1) ∧ decode cX12_readPlayer 176 = .ok (.iconst 1, 1) ∧ decode cX12_readPlayer 177 = .ok (.iadd, 1) ∧ decode cX12_readPlayer 178 = .ok (.iastore, 1) ∧ decode cX12_readPlayer 179 = .ok (.return_, 1) ∧ True := dkl_ok (c := cX12_readPlayer) [(.sipush 3722, 3), (.dup2, 1), (.iaload, 1), (.iconst 1, 1), (.iadd, 1), (.iastore, 1), (.return_, 1)] 171 (by decide +kernel)
theorem dX12_readPlayer_171 : decode cX12_readPlayer 171 = .ok (.sipush 3722, 3) := eX12_readPlayer_171.1
theorem dX12_readPlayer_174 : decode cX12_readPlayer 174 = .ok (.dup2, 1) := eX12_readPlayer_171.2.1
theorem dX12_readPlayer_175 : decode cX12_readPlayer 175 = .ok (.iaload, 1) := eX12_readPlayer_171.2.2.1
theorem dX12_readPlayer_176 : decode cX12_readPlayer 176 = .ok (.iconst 1, 1) := eX12_readPlayer_171.2.2.2.1
theorem dX12_readPlayer_177 : decode cX12_readPlayer 177 = .ok (.iadd, 1) := eX12_readPlayer_171.2.2.2.2.1
theorem dX12_readPlayer_178 : decode cX12_readPlayer 178 = .ok (.iastore, 1) := eX12_readPlayer_171.2.2.2.2.2.1
theorem dX12_readPlayer_179 : decode cX12_readPlayer 179 = .ok (.return_, 1) := eX12_readPlayer_171.2.2.2.2.2.2.1
theorem eX12_toldOf_0 : decode cX12_toldOf 0 = .ok (.iconst 0, 1) ∧ decode cX12_toldOf 1 = .ok (.istore_n 2, 1) ∧ decode cX12_toldOf 2 = .ok (.iconst 0, 1) ∧ decode cX12_toldOf 3 = .ok (.istore_n 3, 1) ∧ decode cX12_toldOf 4 = .ok (.iload_n 3, 1) ∧ decode cX12_toldOf 5 = .ok (.bipush 6, 2) ∧ decode cX12_toldOf 7 = .ok (.if_icmp .ge 27, 3) ∧ decode cX12_toldOf 10 = .ok (.iload_n 2, 1) ∧ True := dkl_ok (c := cX12_toldOf) [(.iconst 0, 1), (.istore_n 2, 1), (.iconst 0, 1), (.istore_n 3, 1), (.iload_n 3, 1), (.bipush 6, 2), (.if_icmp .ge 27, 3), (.iload_n 2, 1)] 0 (by decide +kernel)
theorem dX12_toldOf_0 : decode cX12_toldOf 0 = .ok (.iconst 0, 1) := eX12_toldOf_0.1
theorem dX12_toldOf_1 : decode cX12_toldOf 1 = .ok (.istore_n 2, 1) := eX12_toldOf_0.2.1
theorem dX12_toldOf_2 : decode cX12_toldOf 2 = .ok (.iconst 0, 1) := eX12_toldOf_0.2.2.1
theorem dX12_toldOf_3 : decode cX12_toldOf 3 = .ok (.istore_n 3, 1) := eX12_toldOf_0.2.2.2.1
theorem dX12_toldOf_4 : decode cX12_toldOf 4 = .ok (.iload_n 3, 1) := eX12_toldOf_0.2.2.2.2.1
theorem dX12_toldOf_5 : decode cX12_toldOf 5 = .ok (.bipush 6, 2) := eX12_toldOf_0.2.2.2.2.2.1
theorem dX12_toldOf_7 : decode cX12_toldOf 7 = .ok (.if_icmp .ge 27, 3) := eX12_toldOf_0.2.2.2.2.2.2.1
theorem dX12_toldOf_10 : decode cX12_toldOf 10 = .ok (.iload_n 2, 1) := eX12_toldOf_0.2.2.2.2.2.2.2.1
theorem eX12_toldOf_11 : decode cX12_toldOf 11 = .ok (.aload_n 0, 1) ∧ decode cX12_toldOf 12 = .ok (.getfield 35, 3) ∧ decode cX12_toldOf 15 = .ok (.sipush 3754, 3) ∧ decode cX12_toldOf 18 = .ok (.bipush 10, 2) ∧ decode cX12_toldOf 20 = .ok (.iload_n 3, 1) ∧ decode cX12_toldOf 21 = .ok (.imul, 1) ∧ decode cX12_toldOf 22 = .ok (.iadd, 1) ∧ decode cX12_toldOf 23 = .ok (.iload_n 1, 1) ∧ True := dkl_ok (c := cX12_toldOf) [(.aload_n 0, 1), (.getfield 35, 3), (.sipush 3754, 3), (.bipush 10, 2), (.iload_n 3, 1), (.imul, 1), (.iadd, 1), (.iload_n 1, 1)] 11 (by decide +kernel)
theorem dX12_toldOf_11 : decode cX12_toldOf 11 = .ok (.aload_n 0, 1) := eX12_toldOf_11.1
theorem dX12_toldOf_12 : decode cX12_toldOf 12 = .ok (.getfield 35, 3) := eX12_toldOf_11.2.1
theorem dX12_toldOf_15 : decode cX12_toldOf 15 = .ok (.sipush 3754, 3) := eX12_toldOf_11.2.2.1
theorem dX12_toldOf_18 : decode cX12_toldOf 18 = .ok (.bipush 10, 2) := eX12_toldOf_11.2.2.2.1
theorem dX12_toldOf_20 : decode cX12_toldOf 20 = .ok (.iload_n 3, 1) := eX12_toldOf_11.2.2.2.2.1
theorem dX12_toldOf_21 : decode cX12_toldOf 21 = .ok (.imul, 1) := eX12_toldOf_11.2.2.2.2.2.1
theorem dX12_toldOf_22 : decode cX12_toldOf 22 = .ok (.iadd, 1) := eX12_toldOf_11.2.2.2.2.2.2.1
theorem dX12_toldOf_23 : decode cX12_toldOf 23 = .ok (.iload_n 1, 1) := eX12_toldOf_11.2.2.2.2.2.2.2.1
theorem eX12_toldOf_24 : decode cX12_toldOf 24 = .ok (.iadd, 1) ∧ decode cX12_toldOf 25 = .ok (.iaload, 1) ∧ decode cX12_toldOf 26 = .ok (.iadd, 1) ∧ decode cX12_toldOf 27 = .ok (.istore_n 2, 1) ∧ decode cX12_toldOf 28 = .ok (.iinc 3 1, 3) ∧ decode cX12_toldOf 31 = .ok (.goto (-27), 3) ∧ decode cX12_toldOf 34 = .ok (.iload_n 2, 1) ∧ decode cX12_toldOf 35 = .ok (.ireturn, 1) ∧ True := dkl_ok (c := cX12_toldOf) [(.iadd, 1), (.iaload, 1), (.iadd, 1), (.istore_n 2, 1), (.iinc 3 1, 3), (.goto (-27), 3), (.iload_n 2, 1), (.ireturn, 1)] 24 (by decide +kernel)
theorem dX12_toldOf_24 : decode cX12_toldOf 24 = .ok (.iadd, 1) := eX12_toldOf_24.1
theorem dX12_toldOf_25 : decode cX12_toldOf 25 = .ok (.iaload, 1) := eX12_toldOf_24.2.1
theorem dX12_toldOf_26 : decode cX12_toldOf 26 = .ok (.iadd, 1) := eX12_toldOf_24.2.2.1
theorem dX12_toldOf_27 : decode cX12_toldOf 27 = .ok (.istore_n 2, 1) := eX12_toldOf_24.2.2.2.1
theorem dX12_toldOf_28 : decode cX12_toldOf 28 = .ok (.iinc 3 1, 3) := eX12_toldOf_24.2.2.2.2.1
theorem dX12_toldOf_31 : decode cX12_toldOf 31 = .ok (.goto (-27), 3) := eX12_toldOf_24.2.2.2.2.2.1
theorem dX12_toldOf_34 : decode cX12_toldOf 34 = .ok (.iload_n 2, 1) := eX12_toldOf_24.2.2.2.2.2.2.1
theorem dX12_toldOf_35 : decode cX12_toldOf 35 = .ok (.ireturn, 1) := eX12_toldOf_24.2.2.2.2.2.2.2.1
theorem eX12_readHand_0 : decode cX12_readHand 0 = .ok (.aload_n 0, 1) ∧ decode cX12_readHand 1 = .ok (.invokevirtual 197, 3) ∧ decode cX12_readHand 4 = .ok (.aload_n 0, 1) ∧ decode cX12_readHand 5 = .ok (.iconst 4, 1) ∧ decode cX12_readHand 6 = .ok (.invokevirtual 226, 3) ∧ decode cX12_readHand 9 = .ok (.istore_n 1, 1) ∧ decode cX12_readHand 10 = .ok (.aload_n 0, 1) ∧ decode cX12_readHand 11 = .ok (.iconst 0, 1) ∧ True := dkl_ok (c := cX12_readHand) [(.aload_n 0, 1), (.invokevirtual 197, 3), (.aload_n 0, 1), (.iconst 4, 1), (.invokevirtual 226, 3), (.istore_n 1, 1), (.aload_n 0, 1), (.iconst 0, 1)] 0 (by decide +kernel)
theorem dX12_readHand_0 : decode cX12_readHand 0 = .ok (.aload_n 0, 1) := eX12_readHand_0.1
theorem dX12_readHand_1 : decode cX12_readHand 1 = .ok (.invokevirtual 197, 3) := eX12_readHand_0.2.1
theorem dX12_readHand_4 : decode cX12_readHand 4 = .ok (.aload_n 0, 1) := eX12_readHand_0.2.2.1
theorem dX12_readHand_5 : decode cX12_readHand 5 = .ok (.iconst 4, 1) := eX12_readHand_0.2.2.2.1
theorem dX12_readHand_6 : decode cX12_readHand 6 = .ok (.invokevirtual 226, 3) := eX12_readHand_0.2.2.2.2.1
theorem dX12_readHand_9 : decode cX12_readHand 9 = .ok (.istore_n 1, 1) := eX12_readHand_0.2.2.2.2.2.1
theorem dX12_readHand_10 : decode cX12_readHand 10 = .ok (.aload_n 0, 1) := eX12_readHand_0.2.2.2.2.2.2.1
theorem dX12_readHand_11 : decode cX12_readHand 11 = .ok (.iconst 0, 1) := eX12_readHand_0.2.2.2.2.2.2.2.1
theorem eX12_readHand_12 : decode cX12_readHand 12 = .ok (.bipush 8, 2) ∧ decode cX12_readHand 14 = .ok (.invokevirtual 223, 3) ∧ decode cX12_readHand 17 = .ok (.istore_n 2, 1) ∧ decode cX12_readHand 18 = .ok (.aload_n 0, 1) ∧ decode cX12_readHand 19 = .ok (.aload_n 0, 1) ∧ decode cX12_readHand 20 = .ok (.invokevirtual 168, 3) ∧ decode cX12_readHand 23 = .ok (.invokevirtual 216, 3) ∧ decode cX12_readHand 26 = .ok (.aload_n 0, 1) ∧ True := dkl_ok (c := cX12_readHand) [(.bipush 8, 2), (.invokevirtual 223, 3), (.istore_n 2, 1), (.aload_n 0, 1), (.aload_n 0, 1), (.invokevirtual 168, 3), (.invokevirtual 216, 3), (.aload_n 0, 1)] 12 (by decide +kernel)
theorem dX12_readHand_12 : decode cX12_readHand 12 = .ok (.bipush 8, 2) := eX12_readHand_12.1
theorem dX12_readHand_14 : decode cX12_readHand 14 = .ok (.invokevirtual 223, 3) := eX12_readHand_12.2.1
theorem dX12_readHand_17 : decode cX12_readHand 17 = .ok (.istore_n 2, 1) := eX12_readHand_12.2.2.1
theorem dX12_readHand_18 : decode cX12_readHand 18 = .ok (.aload_n 0, 1) := eX12_readHand_12.2.2.2.1
theorem dX12_readHand_19 : decode cX12_readHand 19 = .ok (.aload_n 0, 1) := eX12_readHand_12.2.2.2.2.1
theorem dX12_readHand_20 : decode cX12_readHand 20 = .ok (.invokevirtual 168, 3) := eX12_readHand_12.2.2.2.2.2.1
theorem dX12_readHand_23 : decode cX12_readHand 23 = .ok (.invokevirtual 216, 3) := eX12_readHand_12.2.2.2.2.2.2.1
theorem dX12_readHand_26 : decode cX12_readHand 26 = .ok (.aload_n 0, 1) := eX12_readHand_12.2.2.2.2.2.2.2.1
theorem eX12_readHand_27 : decode cX12_readHand 27 = .ok (.getfield 104, 3) ∧ decode cX12_readHand 30 = .ok (.istore_n 3, 1) ∧ decode cX12_readHand 31 = .ok (.aload_n 0, 1) ∧ decode cX12_readHand 32 = .ok (.iconst 0, 1) ∧ decode cX12_readHand 33 = .ok (.aload_n 0, 1) ∧ decode cX12_readHand 34 = .ok (.getfield 35, 3) ∧ decode cX12_readHand 37 = .ok (.sipush 3720, 3) ∧ decode cX12_readHand 40 = .ok (.iaload, 1) ∧ True := dkl_ok (c := cX12_readHand) [(.getfield 104, 3), (.istore_n 3, 1), (.aload_n 0, 1), (.iconst 0, 1), (.aload_n 0, 1), (.getfield 35, 3), (.sipush 3720, 3), (.iaload, 1)] 27 (by decide +kernel)
theorem dX12_readHand_27 : decode cX12_readHand 27 = .ok (.getfield 104, 3) := eX12_readHand_27.1
theorem dX12_readHand_30 : decode cX12_readHand 30 = .ok (.istore_n 3, 1) := eX12_readHand_27.2.1
theorem dX12_readHand_31 : decode cX12_readHand 31 = .ok (.aload_n 0, 1) := eX12_readHand_27.2.2.1
theorem dX12_readHand_32 : decode cX12_readHand 32 = .ok (.iconst 0, 1) := eX12_readHand_27.2.2.2.1
theorem dX12_readHand_33 : decode cX12_readHand 33 = .ok (.aload_n 0, 1) := eX12_readHand_27.2.2.2.2.1
theorem dX12_readHand_34 : decode cX12_readHand 34 = .ok (.getfield 35, 3) := eX12_readHand_27.2.2.2.2.2.1
theorem dX12_readHand_37 : decode cX12_readHand 37 = .ok (.sipush 3720, 3) := eX12_readHand_27.2.2.2.2.2.2.1
theorem dX12_readHand_40 : decode cX12_readHand 40 = .ok (.iaload, 1) := eX12_readHand_27.2.2.2.2.2.2.2.1
theorem eX12_readHand_41 : decode cX12_readHand 41 = .ok (.iconst 1, 1) ∧ decode cX12_readHand 42 = .ok (.isub, 1) ∧ decode cX12_readHand 43 = .ok (.invokevirtual 223, 3) ∧ decode cX12_readHand 46 = .ok (.istore 4, 2) ∧ decode cX12_readHand 48 = .ok (.bipush 10, 2) ∧ decode cX12_readHand 50 = .ok (.iload_n 1, 1) ∧ decode cX12_readHand 51 = .ok (.imul, 1) ∧ decode cX12_readHand 52 = .ok (.iload 4, 2) ∧ True := dkl_ok (c := cX12_readHand) [(.iconst 1, 1), (.isub, 1), (.invokevirtual 223, 3), (.istore 4, 2), (.bipush 10, 2), (.iload_n 1, 1), (.imul, 1), (.iload 4, 2)] 41 (by decide +kernel)
theorem dX12_readHand_41 : decode cX12_readHand 41 = .ok (.iconst 1, 1) := eX12_readHand_41.1
theorem dX12_readHand_42 : decode cX12_readHand 42 = .ok (.isub, 1) := eX12_readHand_41.2.1
theorem dX12_readHand_43 : decode cX12_readHand 43 = .ok (.invokevirtual 223, 3) := eX12_readHand_41.2.2.1
theorem dX12_readHand_46 : decode cX12_readHand 46 = .ok (.istore 4, 2) := eX12_readHand_41.2.2.2.1
theorem dX12_readHand_48 : decode cX12_readHand 48 = .ok (.bipush 10, 2) := eX12_readHand_41.2.2.2.2.1
theorem dX12_readHand_50 : decode cX12_readHand 50 = .ok (.iload_n 1, 1) := eX12_readHand_41.2.2.2.2.2.1
theorem dX12_readHand_51 : decode cX12_readHand 51 = .ok (.imul, 1) := eX12_readHand_41.2.2.2.2.2.2.1
theorem dX12_readHand_52 : decode cX12_readHand 52 = .ok (.iload 4, 2) := eX12_readHand_41.2.2.2.2.2.2.2.1
theorem eX12_readHand_54 : decode cX12_readHand 54 = .ok (.iadd, 1) ∧ decode cX12_readHand 55 = .ok (.istore 5, 2) ∧ decode cX12_readHand 57 = .ok (.aload_n 0, 1) ∧ decode cX12_readHand 58 = .ok (.getfield 187, 3) ∧ decode cX12_readHand 61 = .ok (.ifCond .ne 39, 3) ∧ decode cX12_readHand 64 = .ok (.aload_n 0, 1) ∧ decode cX12_readHand 65 = .ok (.getfield 41, 3) ∧ decode cX12_readHand 68 = .ok (.iload 5, 2) ∧ True := dkl_ok (c := cX12_readHand) [(.iadd, 1), (.istore 5, 2), (.aload_n 0, 1), (.getfield 187, 3), (.ifCond .ne 39, 3), (.aload_n 0, 1), (.getfield 41, 3), (.iload 5, 2)] 54 (by decide +kernel)
theorem dX12_readHand_54 : decode cX12_readHand 54 = .ok (.iadd, 1) := eX12_readHand_54.1
theorem dX12_readHand_55 : decode cX12_readHand 55 = .ok (.istore 5, 2) := eX12_readHand_54.2.1
theorem dX12_readHand_57 : decode cX12_readHand 57 = .ok (.aload_n 0, 1) := eX12_readHand_54.2.2.1
theorem dX12_readHand_58 : decode cX12_readHand 58 = .ok (.getfield 187, 3) := eX12_readHand_54.2.2.2.1
theorem dX12_readHand_61 : decode cX12_readHand 61 = .ok (.ifCond .ne 39, 3) := eX12_readHand_54.2.2.2.2.1
theorem dX12_readHand_64 : decode cX12_readHand 64 = .ok (.aload_n 0, 1) := eX12_readHand_54.2.2.2.2.2.1
theorem dX12_readHand_65 : decode cX12_readHand 65 = .ok (.getfield 41, 3) := eX12_readHand_54.2.2.2.2.2.2.1
theorem dX12_readHand_68 : decode cX12_readHand 68 = .ok (.iload 5, 2) := eX12_readHand_54.2.2.2.2.2.2.2.1
theorem eX12_readHand_70 : decode cX12_readHand 70 = .ok (.iaload, 1) ∧ decode cX12_readHand 71 = .ok (.iconst 1, 1) ∧ decode cX12_readHand 72 = .ok (.if_icmp .eq 22, 3) ∧ decode cX12_readHand 75 = .ok (.aload_n 0, 1) ∧ decode cX12_readHand 76 = .ok (.iload 4, 2) ∧ decode cX12_readHand 78 = .ok (.invokevirtual 229, 3) ∧ decode cX12_readHand 81 = .ok (.iload_n 2, 1) ∧ decode cX12_readHand 82 = .ok (.iadd, 1) ∧ True := dkl_ok (c := cX12_readHand) [(.iaload, 1), (.iconst 1, 1), (.if_icmp .eq 22, 3), (.aload_n 0, 1), (.iload 4, 2), (.invokevirtual 229, 3), (.iload_n 2, 1), (.iadd, 1)] 70 (by decide +kernel)
theorem dX12_readHand_70 : decode cX12_readHand 70 = .ok (.iaload, 1) := eX12_readHand_70.1
theorem dX12_readHand_71 : decode cX12_readHand 71 = .ok (.iconst 1, 1) := eX12_readHand_70.2.1
theorem dX12_readHand_72 : decode cX12_readHand 72 = .ok (.if_icmp .eq 22, 3) := eX12_readHand_70.2.2.1
theorem dX12_readHand_75 : decode cX12_readHand 75 = .ok (.aload_n 0, 1) := eX12_readHand_70.2.2.2.1
theorem dX12_readHand_76 : decode cX12_readHand 76 = .ok (.iload 4, 2) := eX12_readHand_70.2.2.2.2.1
theorem dX12_readHand_78 : decode cX12_readHand 78 = .ok (.invokevirtual 229, 3) := eX12_readHand_70.2.2.2.2.2.1
theorem dX12_readHand_81 : decode cX12_readHand 81 = .ok (.iload_n 2, 1) := eX12_readHand_70.2.2.2.2.2.2.1
theorem dX12_readHand_82 : decode cX12_readHand 82 = .ok (.iadd, 1) := eX12_readHand_70.2.2.2.2.2.2.2.1
theorem eX12_readHand_83 : decode cX12_readHand 83 = .ok (.aload_n 0, 1) ∧ decode cX12_readHand 84 = .ok (.getfield 35, 3) ∧ decode cX12_readHand 87 = .ok (.sipush 3721, 3) ∧ decode cX12_readHand 90 = .ok (.iaload, 1) ∧ decode cX12_readHand 91 = .ok (.if_icmp .le 9, 3) ∧ decode cX12_readHand 94 = .ok (.aload_n 0, 1) ∧ decode cX12_readHand 95 = .ok (.iconst 5, 1) ∧ decode cX12_readHand 96 = .ok (.iload_n 3, 1) ∧ True := dkl_ok (c := cX12_readHand) [(.aload_n 0, 1), (.getfield 35, 3), (.sipush 3721, 3), (.iaload, 1), (.if_icmp .le 9, 3), (.aload_n 0, 1), (.iconst 5, 1), (.iload_n 3, 1)] 83 (by decide +kernel)
theorem dX12_readHand_83 : decode cX12_readHand 83 = .ok (.aload_n 0, 1) := eX12_readHand_83.1
theorem dX12_readHand_84 : decode cX12_readHand 84 = .ok (.getfield 35, 3) := eX12_readHand_83.2.1
theorem dX12_readHand_87 : decode cX12_readHand 87 = .ok (.sipush 3721, 3) := eX12_readHand_83.2.2.1
theorem dX12_readHand_90 : decode cX12_readHand 90 = .ok (.iaload, 1) := eX12_readHand_83.2.2.2.1
theorem dX12_readHand_91 : decode cX12_readHand 91 = .ok (.if_icmp .le 9, 3) := eX12_readHand_83.2.2.2.2.1
theorem dX12_readHand_94 : decode cX12_readHand 94 = .ok (.aload_n 0, 1) := eX12_readHand_83.2.2.2.2.2.1
theorem dX12_readHand_95 : decode cX12_readHand 95 = .ok (.iconst 5, 1) := eX12_readHand_83.2.2.2.2.2.2.1
theorem dX12_readHand_96 : decode cX12_readHand 96 = .ok (.iload_n 3, 1) := eX12_readHand_83.2.2.2.2.2.2.2.1
theorem eX12_readHand_97 : decode cX12_readHand 97 = .ok (.invokevirtual 193, 3) ∧ decode cX12_readHand 100 = .ok (.aload_n 0, 1) ∧ decode cX12_readHand 101 = .ok (.getfield 187, 3) ∧ decode cX12_readHand 104 = .ok (.ifCond .le 4, 3) ∧ decode cX12_readHand 107 = .ok (.return_, 1) ∧ decode cX12_readHand 108 = .ok (.aload_n 0, 1) ∧ decode cX12_readHand 109 = .ok (.getfield 41, 3) ∧ decode cX12_readHand 112 = .ok (.iload 5, 2) ∧ True := dkl_ok (c := cX12_readHand) [(.invokevirtual 193, 3), (.aload_n 0, 1), (.getfield 187, 3), (.ifCond .le 4, 3), (.return_, 1), (.aload_n 0, 1), (.getfield 41, 3), (.iload 5, 2)] 97 (by decide +kernel)
theorem dX12_readHand_97 : decode cX12_readHand 97 = .ok (.invokevirtual 193, 3) := eX12_readHand_97.1
theorem dX12_readHand_100 : decode cX12_readHand 100 = .ok (.aload_n 0, 1) := eX12_readHand_97.2.1
theorem dX12_readHand_101 : decode cX12_readHand 101 = .ok (.getfield 187, 3) := eX12_readHand_97.2.2.1
theorem dX12_readHand_104 : decode cX12_readHand 104 = .ok (.ifCond .le 4, 3) := eX12_readHand_97.2.2.2.1
theorem dX12_readHand_107 : decode cX12_readHand 107 = .ok (.return_, 1) := eX12_readHand_97.2.2.2.2.1
theorem dX12_readHand_108 : decode cX12_readHand 108 = .ok (.aload_n 0, 1) := eX12_readHand_97.2.2.2.2.2.1
theorem dX12_readHand_109 : decode cX12_readHand 109 = .ok (.getfield 41, 3) := eX12_readHand_97.2.2.2.2.2.2.1
theorem dX12_readHand_112 : decode cX12_readHand 112 = .ok (.iload 5, 2) := eX12_readHand_97.2.2.2.2.2.2.2.1
theorem eX12_readHand_114 : decode cX12_readHand 114 = .ok (.iconst 1, 1) ∧ decode cX12_readHand 115 = .ok (.iastore, 1) ∧ decode cX12_readHand 116 = .ok (.aload_n 0, 1) ∧ decode cX12_readHand 117 = .ok (.getfield 35, 3) ∧ decode cX12_readHand 120 = .ok (.sipush 3754, 3) ∧ decode cX12_readHand 123 = .ok (.iload 5, 2) ∧ decode cX12_readHand 125 = .ok (.iadd, 1) ∧ decode cX12_readHand 126 = .ok (.iload_n 2, 1) ∧ True := dkl_ok (c := cX12_readHand) [(.iconst 1, 1), (.iastore, 1), (.aload_n 0, 1), (.getfield 35, 3), (.sipush 3754, 3), (.iload 5, 2), (.iadd, 1), (.iload_n 2, 1)] 114 (by decide +kernel)
theorem dX12_readHand_114 : decode cX12_readHand 114 = .ok (.iconst 1, 1) := eX12_readHand_114.1
theorem dX12_readHand_115 : decode cX12_readHand 115 = .ok (.iastore, 1) := eX12_readHand_114.2.1
theorem dX12_readHand_116 : decode cX12_readHand 116 = .ok (.aload_n 0, 1) := eX12_readHand_114.2.2.1
theorem dX12_readHand_117 : decode cX12_readHand 117 = .ok (.getfield 35, 3) := eX12_readHand_114.2.2.2.1
theorem dX12_readHand_120 : decode cX12_readHand 120 = .ok (.sipush 3754, 3) := eX12_readHand_114.2.2.2.2.1
theorem dX12_readHand_123 : decode cX12_readHand 123 = .ok (.iload 5, 2) := eX12_readHand_114.2.2.2.2.2.1
theorem dX12_readHand_125 : decode cX12_readHand 125 = .ok (.iadd, 1) := eX12_readHand_114.2.2.2.2.2.2.1
theorem dX12_readHand_126 : decode cX12_readHand 126 = .ok (.iload_n 2, 1) := eX12_readHand_114.2.2.2.2.2.2.2.1
theorem eX12_readHand_127 : decode cX12_readHand 127 = .ok (.iastore, 1) ∧ decode cX12_readHand 128 = .ok (.return_, 1) ∧ True := dkl_ok (c := cX12_readHand) [(.iastore, 1), (.return_, 1)] 127 (by decide +kernel)
theorem dX12_readHand_127 : decode cX12_readHand 127 = .ok (.iastore, 1) := eX12_readHand_127.1
theorem dX12_readHand_128 : decode cX12_readHand 128 = .ok (.return_, 1) := eX12_readHand_127.2.1
theorem eX12_readLaw_0 : decode cX12_readLaw 0 = .ok (.aload_n 0, 1) ∧ decode cX12_readLaw 1 = .ok (.getfield 232, 3) ∧ decode cX12_readLaw 4 = .ok (.ifCond .eq 12, 3) ∧ decode cX12_readLaw 7 = .ok (.aload_n 0, 1) ∧ decode cX12_readLaw 8 = .ok (.iconst 5, 1) ∧ decode cX12_readLaw 9 = .ok (.aload_n 0, 1) ∧ decode cX12_readLaw 10 = .ok (.getfield 104, 3) ∧ decode cX12_readLaw 13 = .ok (.invokevirtual 193, 3) ∧ True := dkl_ok (c := cX12_readLaw) [(.aload_n 0, 1), (.getfield 232, 3), (.ifCond .eq 12, 3), (.aload_n 0, 1), (.iconst 5, 1), (.aload_n 0, 1), (.getfield 104, 3), (.invokevirtual 193, 3)] 0 (by decide +kernel)
theorem dX12_readLaw_0 : decode cX12_readLaw 0 = .ok (.aload_n 0, 1) := eX12_readLaw_0.1
theorem dX12_readLaw_1 : decode cX12_readLaw 1 = .ok (.getfield 232, 3) := eX12_readLaw_0.2.1
theorem dX12_readLaw_4 : decode cX12_readLaw 4 = .ok (.ifCond .eq 12, 3) := eX12_readLaw_0.2.2.1
theorem dX12_readLaw_7 : decode cX12_readLaw 7 = .ok (.aload_n 0, 1) := eX12_readLaw_0.2.2.2.1
theorem dX12_readLaw_8 : decode cX12_readLaw 8 = .ok (.iconst 5, 1) := eX12_readLaw_0.2.2.2.2.1
theorem dX12_readLaw_9 : decode cX12_readLaw 9 = .ok (.aload_n 0, 1) := eX12_readLaw_0.2.2.2.2.2.1
theorem dX12_readLaw_10 : decode cX12_readLaw 10 = .ok (.getfield 104, 3) := eX12_readLaw_0.2.2.2.2.2.2.1
theorem dX12_readLaw_13 : decode cX12_readLaw 13 = .ok (.invokevirtual 193, 3) := eX12_readLaw_0.2.2.2.2.2.2.2.1
theorem eX12_readLaw_16 : decode cX12_readLaw 16 = .ok (.aload_n 0, 1) ∧ decode cX12_readLaw 17 = .ok (.getfield 187, 3) ∧ decode cX12_readLaw 20 = .ok (.ifCond .le 4, 3) ∧ decode cX12_readLaw 23 = .ok (.return_, 1) ∧ decode cX12_readLaw 24 = .ok (.aload_n 0, 1) ∧ decode cX12_readLaw 25 = .ok (.iconst 1, 1) ∧ decode cX12_readLaw 26 = .ok (.putfield 232, 3) ∧ decode cX12_readLaw 29 = .ok (.aload_n 0, 1) ∧ True := dkl_ok (c := cX12_readLaw) [(.aload_n 0, 1), (.getfield 187, 3), (.ifCond .le 4, 3), (.return_, 1), (.aload_n 0, 1), (.iconst 1, 1), (.putfield 232, 3), (.aload_n 0, 1)] 16 (by decide +kernel)
theorem dX12_readLaw_16 : decode cX12_readLaw 16 = .ok (.aload_n 0, 1) := eX12_readLaw_16.1
theorem dX12_readLaw_17 : decode cX12_readLaw 17 = .ok (.getfield 187, 3) := eX12_readLaw_16.2.1
theorem dX12_readLaw_20 : decode cX12_readLaw 20 = .ok (.ifCond .le 4, 3) := eX12_readLaw_16.2.2.1
theorem dX12_readLaw_23 : decode cX12_readLaw 23 = .ok (.return_, 1) := eX12_readLaw_16.2.2.2.1
theorem dX12_readLaw_24 : decode cX12_readLaw 24 = .ok (.aload_n 0, 1) := eX12_readLaw_16.2.2.2.2.1
theorem dX12_readLaw_25 : decode cX12_readLaw 25 = .ok (.iconst 1, 1) := eX12_readLaw_16.2.2.2.2.2.1
theorem dX12_readLaw_26 : decode cX12_readLaw 26 = .ok (.putfield 232, 3) := eX12_readLaw_16.2.2.2.2.2.2.1
theorem dX12_readLaw_29 : decode cX12_readLaw 29 = .ok (.aload_n 0, 1) := eX12_readLaw_16.2.2.2.2.2.2.2.1
theorem eX12_readLaw_30 : decode cX12_readLaw 30 = .ok (.invokevirtual 197, 3) ∧ decode cX12_readLaw 33 = .ok (.aload_n 0, 1) ∧ decode cX12_readLaw 34 = .ok (.getfield 35, 3) ∧ decode cX12_readLaw 37 = .ok (.sipush 3723, 3) ∧ decode cX12_readLaw 40 = .ok (.iconst 0, 1) ∧ decode cX12_readLaw 41 = .ok (.aload_n 0, 1) ∧ decode cX12_readLaw 42 = .ok (.invokevirtual 171, 3) ∧ decode cX12_readLaw 45 = .ok (.invokestatic 220, 3) ∧ True := dkl_ok (c := cX12_readLaw) [(.invokevirtual 197, 3), (.aload_n 0, 1), (.getfield 35, 3), (.sipush 3723, 3), (.iconst 0, 1), (.aload_n 0, 1), (.invokevirtual 171, 3), (.invokestatic 220, 3)] 30 (by decide +kernel)
theorem dX12_readLaw_30 : decode cX12_readLaw 30 = .ok (.invokevirtual 197, 3) := eX12_readLaw_30.1
theorem dX12_readLaw_33 : decode cX12_readLaw 33 = .ok (.aload_n 0, 1) := eX12_readLaw_30.2.1
theorem dX12_readLaw_34 : decode cX12_readLaw 34 = .ok (.getfield 35, 3) := eX12_readLaw_30.2.2.1
theorem dX12_readLaw_37 : decode cX12_readLaw 37 = .ok (.sipush 3723, 3) := eX12_readLaw_30.2.2.2.1
theorem dX12_readLaw_40 : decode cX12_readLaw 40 = .ok (.iconst 0, 1) := eX12_readLaw_30.2.2.2.2.1
theorem dX12_readLaw_41 : decode cX12_readLaw 41 = .ok (.aload_n 0, 1) := eX12_readLaw_30.2.2.2.2.2.1
theorem dX12_readLaw_42 : decode cX12_readLaw 42 = .ok (.invokevirtual 171, 3) := eX12_readLaw_30.2.2.2.2.2.2.1
theorem dX12_readLaw_45 : decode cX12_readLaw 45 = .ok (.invokestatic 220, 3) := eX12_readLaw_30.2.2.2.2.2.2.2.1
theorem eX12_readLaw_48 : decode cX12_readLaw 48 = .ok (.iastore, 1) ∧ decode cX12_readLaw 49 = .ok (.aload_n 0, 1) ∧ decode cX12_readLaw 50 = .ok (.aload_n 0, 1) ∧ decode cX12_readLaw 51 = .ok (.invokevirtual 171, 3) ∧ decode cX12_readLaw 54 = .ok (.ifCond .lt 7, 3) ∧ decode cX12_readLaw 57 = .ok (.iconst 1, 1) ∧ decode cX12_readLaw 58 = .ok (.goto 4, 3) ∧ decode cX12_readLaw 61 = .ok (.iconst 0, 1) ∧ True := dkl_ok (c := cX12_readLaw) [(.iastore, 1), (.aload_n 0, 1), (.aload_n 0, 1), (.invokevirtual 171, 3), (.ifCond .lt 7, 3), (.iconst 1, 1), (.goto 4, 3), (.iconst 0, 1)] 48 (by decide +kernel)
theorem dX12_readLaw_48 : decode cX12_readLaw 48 = .ok (.iastore, 1) := eX12_readLaw_48.1
theorem dX12_readLaw_49 : decode cX12_readLaw 49 = .ok (.aload_n 0, 1) := eX12_readLaw_48.2.1
theorem dX12_readLaw_50 : decode cX12_readLaw 50 = .ok (.aload_n 0, 1) := eX12_readLaw_48.2.2.1
theorem dX12_readLaw_51 : decode cX12_readLaw 51 = .ok (.invokevirtual 171, 3) := eX12_readLaw_48.2.2.2.1
theorem dX12_readLaw_54 : decode cX12_readLaw 54 = .ok (.ifCond .lt 7, 3) := eX12_readLaw_48.2.2.2.2.1
theorem dX12_readLaw_57 : decode cX12_readLaw 57 = .ok (.iconst 1, 1) := eX12_readLaw_48.2.2.2.2.2.1
theorem dX12_readLaw_58 : decode cX12_readLaw 58 = .ok (.goto 4, 3) := eX12_readLaw_48.2.2.2.2.2.2.1
theorem dX12_readLaw_61 : decode cX12_readLaw 61 = .ok (.iconst 0, 1) := eX12_readLaw_48.2.2.2.2.2.2.2.1
theorem eX12_readLaw_62 : decode cX12_readLaw 62 = .ok (.invokevirtual 216, 3) ∧ decode cX12_readLaw 65 = .ok (.return_, 1) ∧ True := dkl_ok (c := cX12_readLaw) [(.invokevirtual 216, 3), (.return_, 1)] 62 (by decide +kernel)
theorem dX12_readLaw_62 : decode cX12_readLaw 62 = .ok (.invokevirtual 216, 3) := eX12_readLaw_62.1
theorem dX12_readLaw_65 : decode cX12_readLaw 65 = .ok (.return_, 1) := eX12_readLaw_62.2.1
theorem eX12_readMost_0 : decode cX12_readMost 0 = .ok (.aload_n 0, 1) ∧ decode cX12_readMost 1 = .ok (.getfield 236, 3) ∧ decode cX12_readMost 4 = .ok (.ifCond .eq 12, 3) ∧ decode cX12_readMost 7 = .ok (.aload_n 0, 1) ∧ decode cX12_readMost 8 = .ok (.iconst 5, 1) ∧ decode cX12_readMost 9 = .ok (.aload_n 0, 1) ∧ decode cX12_readMost 10 = .ok (.getfield 104, 3) ∧ decode cX12_readMost 13 = .ok (.invokevirtual 193, 3) ∧ True := dkl_ok (c := cX12_readMost) [(.aload_n 0, 1), (.getfield 236, 3), (.ifCond .eq 12, 3), (.aload_n 0, 1), (.iconst 5, 1), (.aload_n 0, 1), (.getfield 104, 3), (.invokevirtual 193, 3)] 0 (by decide +kernel)
theorem dX12_readMost_0 : decode cX12_readMost 0 = .ok (.aload_n 0, 1) := eX12_readMost_0.1
theorem dX12_readMost_1 : decode cX12_readMost 1 = .ok (.getfield 236, 3) := eX12_readMost_0.2.1
theorem dX12_readMost_4 : decode cX12_readMost 4 = .ok (.ifCond .eq 12, 3) := eX12_readMost_0.2.2.1
theorem dX12_readMost_7 : decode cX12_readMost 7 = .ok (.aload_n 0, 1) := eX12_readMost_0.2.2.2.1
theorem dX12_readMost_8 : decode cX12_readMost 8 = .ok (.iconst 5, 1) := eX12_readMost_0.2.2.2.2.1
theorem dX12_readMost_9 : decode cX12_readMost 9 = .ok (.aload_n 0, 1) := eX12_readMost_0.2.2.2.2.2.1
theorem dX12_readMost_10 : decode cX12_readMost 10 = .ok (.getfield 104, 3) := eX12_readMost_0.2.2.2.2.2.2.1
theorem dX12_readMost_13 : decode cX12_readMost 13 = .ok (.invokevirtual 193, 3) := eX12_readMost_0.2.2.2.2.2.2.2.1
theorem eX12_readMost_16 : decode cX12_readMost 16 = .ok (.aload_n 0, 1) ∧ decode cX12_readMost 17 = .ok (.getfield 187, 3) ∧ decode cX12_readMost 20 = .ok (.ifCond .le 4, 3) ∧ decode cX12_readMost 23 = .ok (.return_, 1) ∧ decode cX12_readMost 24 = .ok (.aload_n 0, 1) ∧ decode cX12_readMost 25 = .ok (.iconst 1, 1) ∧ decode cX12_readMost 26 = .ok (.putfield 236, 3) ∧ decode cX12_readMost 29 = .ok (.aload_n 0, 1) ∧ True := dkl_ok (c := cX12_readMost) [(.aload_n 0, 1), (.getfield 187, 3), (.ifCond .le 4, 3), (.return_, 1), (.aload_n 0, 1), (.iconst 1, 1), (.putfield 236, 3), (.aload_n 0, 1)] 16 (by decide +kernel)
theorem dX12_readMost_16 : decode cX12_readMost 16 = .ok (.aload_n 0, 1) := eX12_readMost_16.1
theorem dX12_readMost_17 : decode cX12_readMost 17 = .ok (.getfield 187, 3) := eX12_readMost_16.2.1
theorem dX12_readMost_20 : decode cX12_readMost 20 = .ok (.ifCond .le 4, 3) := eX12_readMost_16.2.2.1
theorem dX12_readMost_23 : decode cX12_readMost 23 = .ok (.return_, 1) := eX12_readMost_16.2.2.2.1
theorem dX12_readMost_24 : decode cX12_readMost 24 = .ok (.aload_n 0, 1) := eX12_readMost_16.2.2.2.2.1
theorem dX12_readMost_25 : decode cX12_readMost 25 = .ok (.iconst 1, 1) := eX12_readMost_16.2.2.2.2.2.1
theorem dX12_readMost_26 : decode cX12_readMost 26 = .ok (.putfield 236, 3) := eX12_readMost_16.2.2.2.2.2.2.1
theorem dX12_readMost_29 : decode cX12_readMost 29 = .ok (.aload_n 0, 1) := eX12_readMost_16.2.2.2.2.2.2.2.1
theorem eX12_readMost_30 : decode cX12_readMost 30 = .ok (.invokevirtual 197, 3) ∧ decode cX12_readMost 33 = .ok (.aload_n 0, 1) ∧ decode cX12_readMost 34 = .ok (.getfield 35, 3) ∧ decode cX12_readMost 37 = .ok (.sipush 3724, 3) ∧ decode cX12_readMost 40 = .ok (.aload_n 0, 1) ∧ decode cX12_readMost 41 = .ok (.iconst 1, 1) ∧ decode cX12_readMost 42 = .ok (.iconst 4, 1) ∧ decode cX12_readMost 43 = .ok (.invokevirtual 223, 3) ∧ True := dkl_ok (c := cX12_readMost) [(.invokevirtual 197, 3), (.aload_n 0, 1), (.getfield 35, 3), (.sipush 3724, 3), (.aload_n 0, 1), (.iconst 1, 1), (.iconst 4, 1), (.invokevirtual 223, 3)] 30 (by decide +kernel)
theorem dX12_readMost_30 : decode cX12_readMost 30 = .ok (.invokevirtual 197, 3) := eX12_readMost_30.1
theorem dX12_readMost_33 : decode cX12_readMost 33 = .ok (.aload_n 0, 1) := eX12_readMost_30.2.1
theorem dX12_readMost_34 : decode cX12_readMost 34 = .ok (.getfield 35, 3) := eX12_readMost_30.2.2.1
theorem dX12_readMost_37 : decode cX12_readMost 37 = .ok (.sipush 3724, 3) := eX12_readMost_30.2.2.2.1
theorem dX12_readMost_40 : decode cX12_readMost 40 = .ok (.aload_n 0, 1) := eX12_readMost_30.2.2.2.2.1
theorem dX12_readMost_41 : decode cX12_readMost 41 = .ok (.iconst 1, 1) := eX12_readMost_30.2.2.2.2.2.1
theorem dX12_readMost_42 : decode cX12_readMost 42 = .ok (.iconst 4, 1) := eX12_readMost_30.2.2.2.2.2.2.1
theorem dX12_readMost_43 : decode cX12_readMost 43 = .ok (.invokevirtual 223, 3) := eX12_readMost_30.2.2.2.2.2.2.2.1
theorem eX12_readMost_46 : decode cX12_readMost 46 = .ok (.iastore, 1) ∧ decode cX12_readMost 47 = .ok (.return_, 1) ∧ True := dkl_ok (c := cX12_readMost) [(.iastore, 1), (.return_, 1)] 46 (by decide +kernel)
theorem dX12_readMost_46 : decode cX12_readMost 46 = .ok (.iastore, 1) := eX12_readMost_46.1
theorem dX12_readMost_47 : decode cX12_readMost 47 = .ok (.return_, 1) := eX12_readMost_46.2.1
theorem eX12_table_0 : decode cX12_table 0 = .ok (.aload_n 0, 1) ∧ decode cX12_table 1 = .ok (.iconst 0, 1) ∧ decode cX12_table 2 = .ok (.putfield 59, 3) ∧ decode cX12_table 5 = .ok (.aload_n 0, 1) ∧ decode cX12_table 6 = .ok (.iconst 0, 1) ∧ decode cX12_table 7 = .ok (.putfield 62, 3) ∧ decode cX12_table 10 = .ok (.aload_n 0, 1) ∧ decode cX12_table 11 = .ok (.iload_n 1, 1) ∧ True := dkl_ok (c := cX12_table) [(.aload_n 0, 1), (.iconst 0, 1), (.putfield 59, 3), (.aload_n 0, 1), (.iconst 0, 1), (.putfield 62, 3), (.aload_n 0, 1), (.iload_n 1, 1)] 0 (by decide +kernel)
theorem dX12_table_0 : decode cX12_table 0 = .ok (.aload_n 0, 1) := eX12_table_0.1
theorem dX12_table_1 : decode cX12_table 1 = .ok (.iconst 0, 1) := eX12_table_0.2.1
theorem dX12_table_2 : decode cX12_table 2 = .ok (.putfield 59, 3) := eX12_table_0.2.2.1
theorem dX12_table_5 : decode cX12_table 5 = .ok (.aload_n 0, 1) := eX12_table_0.2.2.2.1
theorem dX12_table_6 : decode cX12_table 6 = .ok (.iconst 0, 1) := eX12_table_0.2.2.2.2.1
theorem dX12_table_7 : decode cX12_table 7 = .ok (.putfield 62, 3) := eX12_table_0.2.2.2.2.2.1
theorem dX12_table_10 : decode cX12_table 10 = .ok (.aload_n 0, 1) := eX12_table_0.2.2.2.2.2.2.1
theorem dX12_table_11 : decode cX12_table 11 = .ok (.iload_n 1, 1) := eX12_table_0.2.2.2.2.2.2.2.1
theorem eX12_table_12 : decode cX12_table 12 = .ok (.sipush 900, 3) ∧ decode cX12_table 15 = .ok (.invokevirtual 239, 3) ∧ decode cX12_table 18 = .ok (.ifCond .ne 5, 3) ∧ decode cX12_table 21 = .ok (.iconst (-1), 1) ∧ decode cX12_table 22 = .ok (.ireturn, 1) ∧ decode cX12_table 23 = .ok (.iconst 0, 1) ∧ decode cX12_table 24 = .ok (.istore_n 2, 1) ∧ decode cX12_table 25 = .ok (.iload_n 2, 1) ∧ True := dkl_ok (c := cX12_table) [(.sipush 900, 3), (.invokevirtual 239, 3), (.ifCond .ne 5, 3), (.iconst (-1), 1), (.ireturn, 1), (.iconst 0, 1), (.istore_n 2, 1), (.iload_n 2, 1)] 12 (by decide +kernel)
theorem dX12_table_12 : decode cX12_table 12 = .ok (.sipush 900, 3) := eX12_table_12.1
theorem dX12_table_15 : decode cX12_table 15 = .ok (.invokevirtual 239, 3) := eX12_table_12.2.1
theorem dX12_table_18 : decode cX12_table 18 = .ok (.ifCond .ne 5, 3) := eX12_table_12.2.2.1
theorem dX12_table_21 : decode cX12_table 21 = .ok (.iconst (-1), 1) := eX12_table_12.2.2.2.1
theorem dX12_table_22 : decode cX12_table 22 = .ok (.ireturn, 1) := eX12_table_12.2.2.2.2.1
theorem dX12_table_23 : decode cX12_table 23 = .ok (.iconst 0, 1) := eX12_table_12.2.2.2.2.2.1
theorem dX12_table_24 : decode cX12_table 24 = .ok (.istore_n 2, 1) := eX12_table_12.2.2.2.2.2.2.1
theorem dX12_table_25 : decode cX12_table 25 = .ok (.iload_n 2, 1) := eX12_table_12.2.2.2.2.2.2.2.1
theorem eX12_table_26 : decode cX12_table 26 = .ok (.sipush 930, 3) ∧ decode cX12_table 29 = .ok (.if_icmp .ge 20, 3) ∧ decode cX12_table 32 = .ok (.aload_n 0, 1) ∧ decode cX12_table 33 = .ok (.getfield 35, 3) ∧ decode cX12_table 36 = .ok (.sipush 3720, 3) ∧ decode cX12_table 39 = .ok (.iload_n 2, 1) ∧ decode cX12_table 40 = .ok (.iadd, 1) ∧ decode cX12_table 41 = .ok (.iconst 0, 1) ∧ True := dkl_ok (c := cX12_table) [(.sipush 930, 3), (.if_icmp .ge 20, 3), (.aload_n 0, 1), (.getfield 35, 3), (.sipush 3720, 3), (.iload_n 2, 1), (.iadd, 1), (.iconst 0, 1)] 26 (by decide +kernel)
theorem dX12_table_26 : decode cX12_table 26 = .ok (.sipush 930, 3) := eX12_table_26.1
theorem dX12_table_29 : decode cX12_table 29 = .ok (.if_icmp .ge 20, 3) := eX12_table_26.2.1
theorem dX12_table_32 : decode cX12_table 32 = .ok (.aload_n 0, 1) := eX12_table_26.2.2.1
theorem dX12_table_33 : decode cX12_table 33 = .ok (.getfield 35, 3) := eX12_table_26.2.2.2.1
theorem dX12_table_36 : decode cX12_table 36 = .ok (.sipush 3720, 3) := eX12_table_26.2.2.2.2.1
theorem dX12_table_39 : decode cX12_table 39 = .ok (.iload_n 2, 1) := eX12_table_26.2.2.2.2.2.1
theorem dX12_table_40 : decode cX12_table 40 = .ok (.iadd, 1) := eX12_table_26.2.2.2.2.2.2.1
theorem dX12_table_41 : decode cX12_table 41 = .ok (.iconst 0, 1) := eX12_table_26.2.2.2.2.2.2.2.1
theorem eX12_table_42 : decode cX12_table 42 = .ok (.iastore, 1) ∧ decode cX12_table 43 = .ok (.iinc 2 1, 3) ∧ decode cX12_table 46 = .ok (.goto (-21), 3) ∧ decode cX12_table 49 = .ok (.iconst 0, 1) ∧ decode cX12_table 50 = .ok (.istore_n 2, 1) ∧ decode cX12_table 51 = .ok (.iload_n 2, 1) ∧ decode cX12_table 52 = .ok (.bipush 60, 2) ∧ decode cX12_table 54 = .ok (.if_icmp .ge 16, 3) ∧ True := dkl_ok (c := cX12_table) [(.iastore, 1), (.iinc 2 1, 3), (.goto (-21), 3), (.iconst 0, 1), (.istore_n 2, 1), (.iload_n 2, 1), (.bipush 60, 2), (.if_icmp .ge 16, 3)] 42 (by decide +kernel)
theorem dX12_table_42 : decode cX12_table 42 = .ok (.iastore, 1) := eX12_table_42.1
theorem dX12_table_43 : decode cX12_table 43 = .ok (.iinc 2 1, 3) := eX12_table_42.2.1
theorem dX12_table_46 : decode cX12_table 46 = .ok (.goto (-21), 3) := eX12_table_42.2.2.1
theorem dX12_table_49 : decode cX12_table 49 = .ok (.iconst 0, 1) := eX12_table_42.2.2.2.1
theorem dX12_table_50 : decode cX12_table 50 = .ok (.istore_n 2, 1) := eX12_table_42.2.2.2.2.1
theorem dX12_table_51 : decode cX12_table 51 = .ok (.iload_n 2, 1) := eX12_table_42.2.2.2.2.2.1
theorem dX12_table_52 : decode cX12_table 52 = .ok (.bipush 60, 2) := eX12_table_42.2.2.2.2.2.2.1
theorem dX12_table_54 : decode cX12_table 54 = .ok (.if_icmp .ge 16, 3) := eX12_table_42.2.2.2.2.2.2.2.1
theorem eX12_table_57 : decode cX12_table 57 = .ok (.aload_n 0, 1) ∧ decode cX12_table 58 = .ok (.getfield 41, 3) ∧ decode cX12_table 61 = .ok (.iload_n 2, 1) ∧ decode cX12_table 62 = .ok (.iconst 0, 1) ∧ decode cX12_table 63 = .ok (.iastore, 1) ∧ decode cX12_table 64 = .ok (.iinc 2 1, 3) ∧ decode cX12_table 67 = .ok (.goto (-16), 3) ∧ decode cX12_table 70 = .ok (.aload_n 0, 1) ∧ True := dkl_ok (c := cX12_table) [(.aload_n 0, 1), (.getfield 41, 3), (.iload_n 2, 1), (.iconst 0, 1), (.iastore, 1), (.iinc 2 1, 3), (.goto (-16), 3), (.aload_n 0, 1)] 57 (by decide +kernel)
theorem dX12_table_57 : decode cX12_table 57 = .ok (.aload_n 0, 1) := eX12_table_57.1
theorem dX12_table_58 : decode cX12_table 58 = .ok (.getfield 41, 3) := eX12_table_57.2.1
theorem dX12_table_61 : decode cX12_table 61 = .ok (.iload_n 2, 1) := eX12_table_57.2.2.1
theorem dX12_table_62 : decode cX12_table 62 = .ok (.iconst 0, 1) := eX12_table_57.2.2.2.1
theorem dX12_table_63 : decode cX12_table 63 = .ok (.iastore, 1) := eX12_table_57.2.2.2.2.1
theorem dX12_table_64 : decode cX12_table 64 = .ok (.iinc 2 1, 3) := eX12_table_57.2.2.2.2.2.1
theorem dX12_table_67 : decode cX12_table 67 = .ok (.goto (-16), 3) := eX12_table_57.2.2.2.2.2.2.1
theorem dX12_table_70 : decode cX12_table 70 = .ok (.aload_n 0, 1) := eX12_table_57.2.2.2.2.2.2.2.1
theorem eX12_table_71 : decode cX12_table 71 = .ok (.iconst 0, 1) ∧ decode cX12_table 72 = .ok (.putfield 232, 3) ∧ decode cX12_table 75 = .ok (.aload_n 0, 1) ∧ decode cX12_table 76 = .ok (.iconst 0, 1) ∧ decode cX12_table 77 = .ok (.putfield 236, 3) ∧ decode cX12_table 80 = .ok (.aload_n 0, 1) ∧ decode cX12_table 81 = .ok (.getfield 35, 3) ∧ decode cX12_table 84 = .ok (.sipush 3724, 3) ∧ True := dkl_ok (c := cX12_table) [(.iconst 0, 1), (.putfield 232, 3), (.aload_n 0, 1), (.iconst 0, 1), (.putfield 236, 3), (.aload_n 0, 1), (.getfield 35, 3), (.sipush 3724, 3)] 71 (by decide +kernel)
theorem dX12_table_71 : decode cX12_table 71 = .ok (.iconst 0, 1) := eX12_table_71.1
theorem dX12_table_72 : decode cX12_table 72 = .ok (.putfield 232, 3) := eX12_table_71.2.1
theorem dX12_table_75 : decode cX12_table 75 = .ok (.aload_n 0, 1) := eX12_table_71.2.2.1
theorem dX12_table_76 : decode cX12_table 76 = .ok (.iconst 0, 1) := eX12_table_71.2.2.2.1
theorem dX12_table_77 : decode cX12_table 77 = .ok (.putfield 236, 3) := eX12_table_71.2.2.2.2.1
theorem dX12_table_80 : decode cX12_table 80 = .ok (.aload_n 0, 1) := eX12_table_71.2.2.2.2.2.1
theorem dX12_table_81 : decode cX12_table 81 = .ok (.getfield 35, 3) := eX12_table_71.2.2.2.2.2.2.1
theorem dX12_table_84 : decode cX12_table 84 = .ok (.sipush 3724, 3) := eX12_table_71.2.2.2.2.2.2.2.1
theorem eX12_table_87 : decode cX12_table 87 = .ok (.iconst 4, 1) ∧ decode cX12_table 88 = .ok (.iastore, 1) ∧ decode cX12_table 89 = .ok (.aload_n 0, 1) ∧ decode cX12_table 90 = .ok (.aload_n 0, 1) ∧ decode cX12_table 91 = .ok (.invokevirtual 150, 3) ∧ decode cX12_table 94 = .ok (.invokevirtual 216, 3) ∧ decode cX12_table 97 = .ok (.aload_n 0, 1) ∧ decode cX12_table 98 = .ok (.getfield 35, 3) ∧ True := dkl_ok (c := cX12_table) [(.iconst 4, 1), (.iastore, 1), (.aload_n 0, 1), (.aload_n 0, 1), (.invokevirtual 150, 3), (.invokevirtual 216, 3), (.aload_n 0, 1), (.getfield 35, 3)] 87 (by decide +kernel)
theorem dX12_table_87 : decode cX12_table 87 = .ok (.iconst 4, 1) := eX12_table_87.1
theorem dX12_table_88 : decode cX12_table 88 = .ok (.iastore, 1) := eX12_table_87.2.1
theorem dX12_table_89 : decode cX12_table 89 = .ok (.aload_n 0, 1) := eX12_table_87.2.2.1
theorem dX12_table_90 : decode cX12_table 90 = .ok (.aload_n 0, 1) := eX12_table_87.2.2.2.1
theorem dX12_table_91 : decode cX12_table 91 = .ok (.invokevirtual 150, 3) := eX12_table_87.2.2.2.2.1
theorem dX12_table_94 : decode cX12_table 94 = .ok (.invokevirtual 216, 3) := eX12_table_87.2.2.2.2.2.1
theorem dX12_table_97 : decode cX12_table 97 = .ok (.aload_n 0, 1) := eX12_table_87.2.2.2.2.2.2.1
theorem dX12_table_98 : decode cX12_table 98 = .ok (.getfield 35, 3) := eX12_table_87.2.2.2.2.2.2.2.1
theorem eX12_table_101 : decode cX12_table 101 = .ok (.sipush 3720, 3) ∧ decode cX12_table 104 = .ok (.aload_n 0, 1) ∧ decode cX12_table 105 = .ok (.iconst 2, 1) ∧ decode cX12_table 106 = .ok (.bipush 10, 2) ∧ decode cX12_table 108 = .ok (.invokevirtual 223, 3) ∧ decode cX12_table 111 = .ok (.iastore, 1) ∧ decode cX12_table 112 = .ok (.aload_n 0, 1) ∧ decode cX12_table 113 = .ok (.aload_n 0, 1) ∧ True := dkl_ok (c := cX12_table) [(.sipush 3720, 3), (.aload_n 0, 1), (.iconst 2, 1), (.bipush 10, 2), (.invokevirtual 223, 3), (.iastore, 1), (.aload_n 0, 1), (.aload_n 0, 1)] 101 (by decide +kernel)
theorem dX12_table_101 : decode cX12_table 101 = .ok (.sipush 3720, 3) := eX12_table_101.1
theorem dX12_table_104 : decode cX12_table 104 = .ok (.aload_n 0, 1) := eX12_table_101.2.1
theorem dX12_table_105 : decode cX12_table 105 = .ok (.iconst 2, 1) := eX12_table_101.2.2.1
theorem dX12_table_106 : decode cX12_table 106 = .ok (.bipush 10, 2) := eX12_table_101.2.2.2.1
theorem dX12_table_108 : decode cX12_table 108 = .ok (.invokevirtual 223, 3) := eX12_table_101.2.2.2.2.1
theorem dX12_table_111 : decode cX12_table 111 = .ok (.iastore, 1) := eX12_table_101.2.2.2.2.2.1
theorem dX12_table_112 : decode cX12_table 112 = .ok (.aload_n 0, 1) := eX12_table_101.2.2.2.2.2.2.1
theorem dX12_table_113 : decode cX12_table 113 = .ok (.aload_n 0, 1) := eX12_table_101.2.2.2.2.2.2.2.1
theorem eX12_table_114 : decode cX12_table 114 = .ok (.invokevirtual 153, 3) ∧ decode cX12_table 117 = .ok (.invokevirtual 216, 3) ∧ decode cX12_table 120 = .ok (.aload_n 0, 1) ∧ decode cX12_table 121 = .ok (.getfield 35, 3) ∧ decode cX12_table 124 = .ok (.sipush 3721, 3) ∧ decode cX12_table 127 = .ok (.aload_n 0, 1) ∧ decode cX12_table 128 = .ok (.iconst 1, 1) ∧ decode cX12_table 129 = .ok (.bipush 8, 2) ∧ True := dkl_ok (c := cX12_table) [(.invokevirtual 153, 3), (.invokevirtual 216, 3), (.aload_n 0, 1), (.getfield 35, 3), (.sipush 3721, 3), (.aload_n 0, 1), (.iconst 1, 1), (.bipush 8, 2)] 114 (by decide +kernel)
theorem dX12_table_114 : decode cX12_table 114 = .ok (.invokevirtual 153, 3) := eX12_table_114.1
theorem dX12_table_117 : decode cX12_table 117 = .ok (.invokevirtual 216, 3) := eX12_table_114.2.1
theorem dX12_table_120 : decode cX12_table 120 = .ok (.aload_n 0, 1) := eX12_table_114.2.2.1
theorem dX12_table_121 : decode cX12_table 121 = .ok (.getfield 35, 3) := eX12_table_114.2.2.2.1
theorem dX12_table_124 : decode cX12_table 124 = .ok (.sipush 3721, 3) := eX12_table_114.2.2.2.2.1
theorem dX12_table_127 : decode cX12_table 127 = .ok (.aload_n 0, 1) := eX12_table_114.2.2.2.2.2.1
theorem dX12_table_128 : decode cX12_table 128 = .ok (.iconst 1, 1) := eX12_table_114.2.2.2.2.2.2.1
theorem dX12_table_129 : decode cX12_table 129 = .ok (.bipush 8, 2) := eX12_table_114.2.2.2.2.2.2.2.1
theorem eX12_table_131 : decode cX12_table 131 = .ok (.invokevirtual 223, 3) ∧ decode cX12_table 134 = .ok (.iastore, 1) ∧ decode cX12_table 135 = .ok (.aload_n 0, 1) ∧ decode cX12_table 136 = .ok (.aload_n 0, 1) ∧ decode cX12_table 137 = .ok (.bipush 59, 2) ∧ decode cX12_table 139 = .ok (.invokevirtual 243, 3) ∧ decode cX12_table 142 = .ok (.invokevirtual 216, 3) ∧ decode cX12_table 145 = .ok (.aload_n 0, 1) ∧ True := dkl_ok (c := cX12_table) [(.invokevirtual 223, 3), (.iastore, 1), (.aload_n 0, 1), (.aload_n 0, 1), (.bipush 59, 2), (.invokevirtual 243, 3), (.invokevirtual 216, 3), (.aload_n 0, 1)] 131 (by decide +kernel)
theorem dX12_table_131 : decode cX12_table 131 = .ok (.invokevirtual 223, 3) := eX12_table_131.1
theorem dX12_table_134 : decode cX12_table 134 = .ok (.iastore, 1) := eX12_table_131.2.1
theorem dX12_table_135 : decode cX12_table 135 = .ok (.aload_n 0, 1) := eX12_table_131.2.2.1
theorem dX12_table_136 : decode cX12_table 136 = .ok (.aload_n 0, 1) := eX12_table_131.2.2.2.1
theorem dX12_table_137 : decode cX12_table 137 = .ok (.bipush 59, 2) := eX12_table_131.2.2.2.2.1
theorem dX12_table_139 : decode cX12_table 139 = .ok (.invokevirtual 243, 3) := eX12_table_131.2.2.2.2.2.1
theorem dX12_table_142 : decode cX12_table 142 = .ok (.invokevirtual 216, 3) := eX12_table_131.2.2.2.2.2.2.1
theorem dX12_table_145 : decode cX12_table 145 = .ok (.aload_n 0, 1) := eX12_table_131.2.2.2.2.2.2.2.1
theorem eX12_table_146 : decode cX12_table 146 = .ok (.getfield 187, 3) ∧ decode cX12_table 149 = .ok (.ifCond .ne 83, 3) ∧ decode cX12_table 152 = .ok (.aload_n 0, 1) ∧ decode cX12_table 153 = .ok (.getfield 110, 3) ∧ decode cX12_table 156 = .ok (.ifCond .eq 76, 3) ∧ decode cX12_table 159 = .ok (.aload_n 0, 1) ∧ decode cX12_table 160 = .ok (.invokevirtual 156, 3) ∧ decode cX12_table 163 = .ok (.ifCond .eq 10, 3) ∧ True := dkl_ok (c := cX12_table) [(.getfield 187, 3), (.ifCond .ne 83, 3), (.aload_n 0, 1), (.getfield 110, 3), (.ifCond .eq 76, 3), (.aload_n 0, 1), (.invokevirtual 156, 3), (.ifCond .eq 10, 3)] 146 (by decide +kernel)
theorem dX12_table_146 : decode cX12_table 146 = .ok (.getfield 187, 3) := eX12_table_146.1
theorem dX12_table_149 : decode cX12_table 149 = .ok (.ifCond .ne 83, 3) := eX12_table_146.2.1
theorem dX12_table_152 : decode cX12_table 152 = .ok (.aload_n 0, 1) := eX12_table_146.2.2.1
theorem dX12_table_153 : decode cX12_table 153 = .ok (.getfield 110, 3) := eX12_table_146.2.2.2.1
theorem dX12_table_156 : decode cX12_table 156 = .ok (.ifCond .eq 76, 3) := eX12_table_146.2.2.2.2.1
theorem dX12_table_159 : decode cX12_table 159 = .ok (.aload_n 0, 1) := eX12_table_146.2.2.2.2.2.1
theorem dX12_table_160 : decode cX12_table 160 = .ok (.invokevirtual 156, 3) := eX12_table_146.2.2.2.2.2.2.1
theorem dX12_table_163 : decode cX12_table 163 = .ok (.ifCond .eq 10, 3) := eX12_table_146.2.2.2.2.2.2.2.1
theorem eX12_table_166 : decode cX12_table 166 = .ok (.aload_n 0, 1) ∧ decode cX12_table 167 = .ok (.invokevirtual 246, 3) ∧ decode cX12_table 170 = .ok (.goto 49, 3) ∧ decode cX12_table 173 = .ok (.aload_n 0, 1) ∧ decode cX12_table 174 = .ok (.invokevirtual 159, 3) ∧ decode cX12_table 177 = .ok (.ifCond .eq 10, 3) ∧ decode cX12_table 180 = .ok (.aload_n 0, 1) ∧ decode cX12_table 181 = .ok (.invokevirtual 249, 3) ∧ True := dkl_ok (c := cX12_table) [(.aload_n 0, 1), (.invokevirtual 246, 3), (.goto 49, 3), (.aload_n 0, 1), (.invokevirtual 159, 3), (.ifCond .eq 10, 3), (.aload_n 0, 1), (.invokevirtual 249, 3)] 166 (by decide +kernel)
theorem dX12_table_166 : decode cX12_table 166 = .ok (.aload_n 0, 1) := eX12_table_166.1
theorem dX12_table_167 : decode cX12_table 167 = .ok (.invokevirtual 246, 3) := eX12_table_166.2.1
theorem dX12_table_170 : decode cX12_table 170 = .ok (.goto 49, 3) := eX12_table_166.2.2.1
theorem dX12_table_173 : decode cX12_table 173 = .ok (.aload_n 0, 1) := eX12_table_166.2.2.2.1
theorem dX12_table_174 : decode cX12_table 174 = .ok (.invokevirtual 159, 3) := eX12_table_166.2.2.2.2.1
theorem dX12_table_177 : decode cX12_table 177 = .ok (.ifCond .eq 10, 3) := eX12_table_166.2.2.2.2.2.1
theorem dX12_table_180 : decode cX12_table 180 = .ok (.aload_n 0, 1) := eX12_table_166.2.2.2.2.2.2.1
theorem dX12_table_181 : decode cX12_table 181 = .ok (.invokevirtual 249, 3) := eX12_table_166.2.2.2.2.2.2.2.1
theorem eX12_table_184 : decode cX12_table 184 = .ok (.goto 35, 3) ∧ decode cX12_table 187 = .ok (.aload_n 0, 1) ∧ decode cX12_table 188 = .ok (.invokevirtual 162, 3) ∧ decode cX12_table 191 = .ok (.ifCond .eq 10, 3) ∧ decode cX12_table 194 = .ok (.aload_n 0, 1) ∧ decode cX12_table 195 = .ok (.invokevirtual 252, 3) ∧ decode cX12_table 198 = .ok (.goto 21, 3) ∧ decode cX12_table 201 = .ok (.aload_n 0, 1) ∧ True := dkl_ok (c := cX12_table) [(.goto 35, 3), (.aload_n 0, 1), (.invokevirtual 162, 3), (.ifCond .eq 10, 3), (.aload_n 0, 1), (.invokevirtual 252, 3), (.goto 21, 3), (.aload_n 0, 1)] 184 (by decide +kernel)
theorem dX12_table_184 : decode cX12_table 184 = .ok (.goto 35, 3) := eX12_table_184.1
theorem dX12_table_187 : decode cX12_table 187 = .ok (.aload_n 0, 1) := eX12_table_184.2.1
theorem dX12_table_188 : decode cX12_table 188 = .ok (.invokevirtual 162, 3) := eX12_table_184.2.2.1
theorem dX12_table_191 : decode cX12_table 191 = .ok (.ifCond .eq 10, 3) := eX12_table_184.2.2.2.1
theorem dX12_table_194 : decode cX12_table 194 = .ok (.aload_n 0, 1) := eX12_table_184.2.2.2.2.1
theorem dX12_table_195 : decode cX12_table 195 = .ok (.invokevirtual 252, 3) := eX12_table_184.2.2.2.2.2.1
theorem dX12_table_198 : decode cX12_table 198 = .ok (.goto 21, 3) := eX12_table_184.2.2.2.2.2.2.1
theorem dX12_table_201 : decode cX12_table 201 = .ok (.aload_n 0, 1) := eX12_table_184.2.2.2.2.2.2.2.1
theorem eX12_table_202 : decode cX12_table 202 = .ok (.invokevirtual 165, 3) ∧ decode cX12_table 205 = .ok (.ifCond .eq 10, 3) ∧ decode cX12_table 208 = .ok (.aload_n 0, 1) ∧ decode cX12_table 209 = .ok (.invokevirtual 255, 3) ∧ decode cX12_table 212 = .ok (.goto 7, 3) ∧ decode cX12_table 215 = .ok (.aload_n 0, 1) ∧ decode cX12_table 216 = .ok (.invokevirtual 200, 3) ∧ decode cX12_table 219 = .ok (.aload_n 0, 1) ∧ True := dkl_ok (c := cX12_table) [(.invokevirtual 165, 3), (.ifCond .eq 10, 3), (.aload_n 0, 1), (.invokevirtual 255, 3), (.goto 7, 3), (.aload_n 0, 1), (.invokevirtual 200, 3), (.aload_n 0, 1)] 202 (by decide +kernel)
theorem dX12_table_202 : decode cX12_table 202 = .ok (.invokevirtual 165, 3) := eX12_table_202.1
theorem dX12_table_205 : decode cX12_table 205 = .ok (.ifCond .eq 10, 3) := eX12_table_202.2.1
theorem dX12_table_208 : decode cX12_table 208 = .ok (.aload_n 0, 1) := eX12_table_202.2.2.1
theorem dX12_table_209 : decode cX12_table 209 = .ok (.invokevirtual 255, 3) := eX12_table_202.2.2.2.1
theorem dX12_table_212 : decode cX12_table 212 = .ok (.goto 7, 3) := eX12_table_202.2.2.2.2.1
theorem dX12_table_215 : decode cX12_table 215 = .ok (.aload_n 0, 1) := eX12_table_202.2.2.2.2.2.1
theorem dX12_table_216 : decode cX12_table 216 = .ok (.invokevirtual 200, 3) := eX12_table_202.2.2.2.2.2.2.1
theorem dX12_table_219 : decode cX12_table 219 = .ok (.aload_n 0, 1) := eX12_table_202.2.2.2.2.2.2.2.1
theorem eX12_table_220 : decode cX12_table 220 = .ok (.aload_n 0, 1) ∧ decode cX12_table 221 = .ok (.bipush 59, 2) ∧ decode cX12_table 223 = .ok (.invokevirtual 243, 3) ∧ decode cX12_table 226 = .ok (.invokevirtual 216, 3) ∧ decode cX12_table 229 = .ok (.goto (-84), 3) ∧ decode cX12_table 232 = .ok (.aload_n 0, 1) ∧ decode cX12_table 233 = .ok (.invokevirtual 258, 3) ∧ decode cX12_table 236 = .ok (.ifCond .ne 5, 3) ∧ True := dkl_ok (c := cX12_table) [(.aload_n 0, 1), (.bipush 59, 2), (.invokevirtual 243, 3), (.invokevirtual 216, 3), (.goto (-84), 3), (.aload_n 0, 1), (.invokevirtual 258, 3), (.ifCond .ne 5, 3)] 220 (by decide +kernel)
theorem dX12_table_220 : decode cX12_table 220 = .ok (.aload_n 0, 1) := eX12_table_220.1
theorem dX12_table_221 : decode cX12_table 221 = .ok (.bipush 59, 2) := eX12_table_220.2.1
theorem dX12_table_223 : decode cX12_table 223 = .ok (.invokevirtual 243, 3) := eX12_table_220.2.2.1
theorem dX12_table_226 : decode cX12_table 226 = .ok (.invokevirtual 216, 3) := eX12_table_220.2.2.2.1
theorem dX12_table_229 : decode cX12_table 229 = .ok (.goto (-84), 3) := eX12_table_220.2.2.2.2.1
theorem dX12_table_232 : decode cX12_table 232 = .ok (.aload_n 0, 1) := eX12_table_220.2.2.2.2.2.1
theorem dX12_table_233 : decode cX12_table 233 = .ok (.invokevirtual 258, 3) := eX12_table_220.2.2.2.2.2.2.1
theorem dX12_table_236 : decode cX12_table 236 = .ok (.ifCond .ne 5, 3) := eX12_table_220.2.2.2.2.2.2.2.1
theorem eX12_table_239 : decode cX12_table 239 = .ok (.iconst (-1), 1) ∧ decode cX12_table 240 = .ok (.ireturn, 1) ∧ decode cX12_table 241 = .ok (.aload_n 0, 1) ∧ decode cX12_table 242 = .ok (.getfield 35, 3) ∧ decode cX12_table 245 = .ok (.sipush 3728, 3) ∧ decode cX12_table 248 = .ok (.iconst (-1), 1) ∧ decode cX12_table 249 = .ok (.iastore, 1) ∧ decode cX12_table 250 = .ok (.aload_n 0, 1) ∧ True := dkl_ok (c := cX12_table) [(.iconst (-1), 1), (.ireturn, 1), (.aload_n 0, 1), (.getfield 35, 3), (.sipush 3728, 3), (.iconst (-1), 1), (.iastore, 1), (.aload_n 0, 1)] 239 (by decide +kernel)
theorem dX12_table_239 : decode cX12_table 239 = .ok (.iconst (-1), 1) := eX12_table_239.1
theorem dX12_table_240 : decode cX12_table 240 = .ok (.ireturn, 1) := eX12_table_239.2.1
theorem dX12_table_241 : decode cX12_table 241 = .ok (.aload_n 0, 1) := eX12_table_239.2.2.1
theorem dX12_table_242 : decode cX12_table 242 = .ok (.getfield 35, 3) := eX12_table_239.2.2.2.1
theorem dX12_table_245 : decode cX12_table 245 = .ok (.sipush 3728, 3) := eX12_table_239.2.2.2.2.1
theorem dX12_table_248 : decode cX12_table 248 = .ok (.iconst (-1), 1) := eX12_table_239.2.2.2.2.2.1
theorem dX12_table_249 : decode cX12_table 249 = .ok (.iastore, 1) := eX12_table_239.2.2.2.2.2.2.1
theorem dX12_table_250 : decode cX12_table 250 = .ok (.aload_n 0, 1) := eX12_table_239.2.2.2.2.2.2.2.1
theorem eX12_table_251 : decode cX12_table 251 = .ok (.getfield 35, 3) ∧ decode cX12_table 254 = .ok (.sipush 3726, 3) ∧ decode cX12_table 257 = .ok (.aload_n 0, 1) ∧ decode cX12_table 258 = .ok (.getfield 35, 3) ∧ decode cX12_table 261 = .ok (.sipush 3722, 3) ∧ decode cX12_table 264 = .ok (.iaload, 1) ∧ decode cX12_table 265 = .ok (.ifCond .ne 7, 3) ∧ decode cX12_table 268 = .ok (.iconst (-1), 1) ∧ True := dkl_ok (c := cX12_table) [(.getfield 35, 3), (.sipush 3726, 3), (.aload_n 0, 1), (.getfield 35, 3), (.sipush 3722, 3), (.iaload, 1), (.ifCond .ne 7, 3), (.iconst (-1), 1)] 251 (by decide +kernel)
theorem dX12_table_251 : decode cX12_table 251 = .ok (.getfield 35, 3) := eX12_table_251.1
theorem dX12_table_254 : decode cX12_table 254 = .ok (.sipush 3726, 3) := eX12_table_251.2.1
theorem dX12_table_257 : decode cX12_table 257 = .ok (.aload_n 0, 1) := eX12_table_251.2.2.1
theorem dX12_table_258 : decode cX12_table 258 = .ok (.getfield 35, 3) := eX12_table_251.2.2.2.1
theorem dX12_table_261 : decode cX12_table 261 = .ok (.sipush 3722, 3) := eX12_table_251.2.2.2.2.1
theorem dX12_table_264 : decode cX12_table 264 = .ok (.iaload, 1) := eX12_table_251.2.2.2.2.2.1
theorem dX12_table_265 : decode cX12_table 265 = .ok (.ifCond .ne 7, 3) := eX12_table_251.2.2.2.2.2.2.1
theorem dX12_table_268 : decode cX12_table 268 = .ok (.iconst (-1), 1) := eX12_table_251.2.2.2.2.2.2.2.1
theorem eX12_table_269 : decode cX12_table 269 = .ok (.goto 4, 3) ∧ decode cX12_table 272 = .ok (.iconst 0, 1) ∧ decode cX12_table 273 = .ok (.iastore, 1) ∧ decode cX12_table 274 = .ok (.aload_n 0, 1) ∧ decode cX12_table 275 = .ok (.iconst 4, 1) ∧ decode cX12_table 276 = .ok (.iconst 0, 1) ∧ decode cX12_table 277 = .ok (.invokevirtual 261, 3) ∧ decode cX12_table 280 = .ok (.aload_n 0, 1) ∧ True := dkl_ok (c := cX12_table) [(.goto 4, 3), (.iconst 0, 1), (.iastore, 1), (.aload_n 0, 1), (.iconst 4, 1), (.iconst 0, 1), (.invokevirtual 261, 3), (.aload_n 0, 1)] 269 (by decide +kernel)
theorem dX12_table_269 : decode cX12_table 269 = .ok (.goto 4, 3) := eX12_table_269.1
theorem dX12_table_272 : decode cX12_table 272 = .ok (.iconst 0, 1) := eX12_table_269.2.1
theorem dX12_table_273 : decode cX12_table 273 = .ok (.iastore, 1) := eX12_table_269.2.2.1
theorem dX12_table_274 : decode cX12_table 274 = .ok (.aload_n 0, 1) := eX12_table_269.2.2.2.1
theorem dX12_table_275 : decode cX12_table 275 = .ok (.iconst 4, 1) := eX12_table_269.2.2.2.2.1
theorem dX12_table_276 : decode cX12_table 276 = .ok (.iconst 0, 1) := eX12_table_269.2.2.2.2.2.1
theorem dX12_table_277 : decode cX12_table 277 = .ok (.invokevirtual 261, 3) := eX12_table_269.2.2.2.2.2.2.1
theorem dX12_table_280 : decode cX12_table 280 = .ok (.aload_n 0, 1) := eX12_table_269.2.2.2.2.2.2.2.1
theorem eX12_table_281 : decode cX12_table 281 = .ok (.getfield 35, 3) ∧ decode cX12_table 284 = .ok (.iconst 2, 1) ∧ decode cX12_table 285 = .ok (.iaload, 1) ∧ decode cX12_table 286 = .ok (.ireturn, 1) ∧ True := dkl_ok (c := cX12_table) [(.getfield 35, 3), (.iconst 2, 1), (.iaload, 1), (.ireturn, 1)] 281 (by decide +kernel)
theorem dX12_table_281 : decode cX12_table 281 = .ok (.getfield 35, 3) := eX12_table_281.1
theorem dX12_table_284 : decode cX12_table 284 = .ok (.iconst 2, 1) := eX12_table_281.2.1
theorem dX12_table_285 : decode cX12_table 285 = .ok (.iaload, 1) := eX12_table_281.2.2.1
theorem dX12_table_286 : decode cX12_table 286 = .ok (.ireturn, 1) := eX12_table_281.2.2.2.1
theorem eX12_readTest_0 : decode cX12_readTest 0 = .ok (.aload_n 0, 1) ∧ decode cX12_readTest 1 = .ok (.invokevirtual 178, 3) ∧ decode cX12_readTest 4 = .ok (.istore_n 2, 1) ∧ decode cX12_readTest 5 = .ok (.aload_n 0, 1) ∧ decode cX12_readTest 6 = .ok (.iload_n 2, 1) ∧ decode cX12_readTest 7 = .ok (.ifCond .lt 7, 3) ∧ decode cX12_readTest 10 = .ok (.iconst 1, 1) ∧ decode cX12_readTest 11 = .ok (.goto 4, 3) ∧ True := dkl_ok (c := cX12_readTest) [(.aload_n 0, 1), (.invokevirtual 178, 3), (.istore_n 2, 1), (.aload_n 0, 1), (.iload_n 2, 1), (.ifCond .lt 7, 3), (.iconst 1, 1), (.goto 4, 3)] 0 (by decide +kernel)
theorem dX12_readTest_0 : decode cX12_readTest 0 = .ok (.aload_n 0, 1) := eX12_readTest_0.1
theorem dX12_readTest_1 : decode cX12_readTest 1 = .ok (.invokevirtual 178, 3) := eX12_readTest_0.2.1
theorem dX12_readTest_4 : decode cX12_readTest 4 = .ok (.istore_n 2, 1) := eX12_readTest_0.2.2.1
theorem dX12_readTest_5 : decode cX12_readTest 5 = .ok (.aload_n 0, 1) := eX12_readTest_0.2.2.2.1
theorem dX12_readTest_6 : decode cX12_readTest 6 = .ok (.iload_n 2, 1) := eX12_readTest_0.2.2.2.2.1
theorem dX12_readTest_7 : decode cX12_readTest 7 = .ok (.ifCond .lt 7, 3) := eX12_readTest_0.2.2.2.2.2.1
theorem dX12_readTest_10 : decode cX12_readTest 10 = .ok (.iconst 1, 1) := eX12_readTest_0.2.2.2.2.2.2.1
theorem dX12_readTest_11 : decode cX12_readTest 11 = .ok (.goto 4, 3) := eX12_readTest_0.2.2.2.2.2.2.2.1
theorem eX12_readTest_14 : decode cX12_readTest 14 = .ok (.iconst 0, 1) ∧ decode cX12_readTest 15 = .ok (.invokevirtual 216, 3) ∧ decode cX12_readTest 18 = .ok (.aload_n 0, 1) ∧ decode cX12_readTest 19 = .ok (.getfield 35, 3) ∧ decode cX12_readTest 22 = .ok (.iload_n 1, 1) ∧ decode cX12_readTest 23 = .ok (.bipush 6, 2) ∧ decode cX12_readTest 25 = .ok (.iadd, 1) ∧ decode cX12_readTest 26 = .ok (.iload_n 2, 1) ∧ True := dkl_ok (c := cX12_readTest) [(.iconst 0, 1), (.invokevirtual 216, 3), (.aload_n 0, 1), (.getfield 35, 3), (.iload_n 1, 1), (.bipush 6, 2), (.iadd, 1), (.iload_n 2, 1)] 14 (by decide +kernel)
theorem dX12_readTest_14 : decode cX12_readTest 14 = .ok (.iconst 0, 1) := eX12_readTest_14.1
theorem dX12_readTest_15 : decode cX12_readTest 15 = .ok (.invokevirtual 216, 3) := eX12_readTest_14.2.1
theorem dX12_readTest_18 : decode cX12_readTest 18 = .ok (.aload_n 0, 1) := eX12_readTest_14.2.2.1
theorem dX12_readTest_19 : decode cX12_readTest 19 = .ok (.getfield 35, 3) := eX12_readTest_14.2.2.2.1
theorem dX12_readTest_22 : decode cX12_readTest 22 = .ok (.iload_n 1, 1) := eX12_readTest_14.2.2.2.2.1
theorem dX12_readTest_23 : decode cX12_readTest 23 = .ok (.bipush 6, 2) := eX12_readTest_14.2.2.2.2.2.1
theorem dX12_readTest_25 : decode cX12_readTest 25 = .ok (.iadd, 1) := eX12_readTest_14.2.2.2.2.2.2.1
theorem dX12_readTest_26 : decode cX12_readTest 26 = .ok (.iload_n 2, 1) := eX12_readTest_14.2.2.2.2.2.2.2.1
theorem eX12_readTest_27 : decode cX12_readTest 27 = .ok (.iastore, 1) ∧ decode cX12_readTest 28 = .ok (.iload_n 2, 1) ∧ decode cX12_readTest 29 = .ok (.ifCond .eq 8, 3) ∧ decode cX12_readTest 32 = .ok (.iload_n 2, 1) ∧ decode cX12_readTest 33 = .ok (.iconst 2, 1) ∧ decode cX12_readTest 34 = .ok (.if_icmp .ne 16, 3) ∧ decode cX12_readTest 37 = .ok (.aload_n 0, 1) ∧ decode cX12_readTest 38 = .ok (.getfield 35, 3) ∧ True := dkl_ok (c := cX12_readTest) [(.iastore, 1), (.iload_n 2, 1), (.ifCond .eq 8, 3), (.iload_n 2, 1), (.iconst 2, 1), (.if_icmp .ne 16, 3), (.aload_n 0, 1), (.getfield 35, 3)] 27 (by decide +kernel)
theorem dX12_readTest_27 : decode cX12_readTest 27 = .ok (.iastore, 1) := eX12_readTest_27.1
theorem dX12_readTest_28 : decode cX12_readTest 28 = .ok (.iload_n 2, 1) := eX12_readTest_27.2.1
theorem dX12_readTest_29 : decode cX12_readTest 29 = .ok (.ifCond .eq 8, 3) := eX12_readTest_27.2.2.1
theorem dX12_readTest_32 : decode cX12_readTest 32 = .ok (.iload_n 2, 1) := eX12_readTest_27.2.2.2.1
theorem dX12_readTest_33 : decode cX12_readTest 33 = .ok (.iconst 2, 1) := eX12_readTest_27.2.2.2.2.1
theorem dX12_readTest_34 : decode cX12_readTest 34 = .ok (.if_icmp .ne 16, 3) := eX12_readTest_27.2.2.2.2.2.1
theorem dX12_readTest_37 : decode cX12_readTest 37 = .ok (.aload_n 0, 1) := eX12_readTest_27.2.2.2.2.2.2.1
theorem dX12_readTest_38 : decode cX12_readTest 38 = .ok (.getfield 35, 3) := eX12_readTest_27.2.2.2.2.2.2.2.1
theorem eX12_readTest_41 : decode cX12_readTest 41 = .ok (.iload_n 1, 1) ∧ decode cX12_readTest 42 = .ok (.iconst 1, 1) ∧ decode cX12_readTest 43 = .ok (.iadd, 1) ∧ decode cX12_readTest 44 = .ok (.aload_n 0, 1) ∧ decode cX12_readTest 45 = .ok (.iconst 0, 1) ∧ decode cX12_readTest 46 = .ok (.invokevirtual 226, 3) ∧ decode cX12_readTest 49 = .ok (.iastore, 1) ∧ decode cX12_readTest 50 = .ok (.aload_n 0, 1) ∧ True := dkl_ok (c := cX12_readTest) [(.iload_n 1, 1), (.iconst 1, 1), (.iadd, 1), (.aload_n 0, 1), (.iconst 0, 1), (.invokevirtual 226, 3), (.iastore, 1), (.aload_n 0, 1)] 41 (by decide +kernel)
theorem dX12_readTest_41 : decode cX12_readTest 41 = .ok (.iload_n 1, 1) := eX12_readTest_41.1
theorem dX12_readTest_42 : decode cX12_readTest 42 = .ok (.iconst 1, 1) := eX12_readTest_41.2.1
theorem dX12_readTest_43 : decode cX12_readTest 43 = .ok (.iadd, 1) := eX12_readTest_41.2.2.1
theorem dX12_readTest_44 : decode cX12_readTest 44 = .ok (.aload_n 0, 1) := eX12_readTest_41.2.2.2.1
theorem dX12_readTest_45 : decode cX12_readTest 45 = .ok (.iconst 0, 1) := eX12_readTest_41.2.2.2.2.1
theorem dX12_readTest_46 : decode cX12_readTest 46 = .ok (.invokevirtual 226, 3) := eX12_readTest_41.2.2.2.2.2.1
theorem dX12_readTest_49 : decode cX12_readTest 49 = .ok (.iastore, 1) := eX12_readTest_41.2.2.2.2.2.2.1
theorem dX12_readTest_50 : decode cX12_readTest 50 = .ok (.aload_n 0, 1) := eX12_readTest_41.2.2.2.2.2.2.2.1
theorem eX12_readTest_51 : decode cX12_readTest 51 = .ok (.getfield 187, 3) ∧ decode cX12_readTest 54 = .ok (.ifCond .gt 8, 3) ∧ decode cX12_readTest 57 = .ok (.iload_n 2, 1) ∧ decode cX12_readTest 58 = .ok (.iconst 3, 1) ∧ decode cX12_readTest 59 = .ok (.if_icmp .ne 4, 3) ∧ decode cX12_readTest 62 = .ok (.return_, 1) ∧ decode cX12_readTest 63 = .ok (.aload_n 0, 1) ∧ decode cX12_readTest 64 = .ok (.getfield 35, 3) ∧ True := dkl_ok (c := cX12_readTest) [(.getfield 187, 3), (.ifCond .gt 8, 3), (.iload_n 2, 1), (.iconst 3, 1), (.if_icmp .ne 4, 3), (.return_, 1), (.aload_n 0, 1), (.getfield 35, 3)] 51 (by decide +kernel)
theorem dX12_readTest_51 : decode cX12_readTest 51 = .ok (.getfield 187, 3) := eX12_readTest_51.1
theorem dX12_readTest_54 : decode cX12_readTest 54 = .ok (.ifCond .gt 8, 3) := eX12_readTest_51.2.1
theorem dX12_readTest_57 : decode cX12_readTest 57 = .ok (.iload_n 2, 1) := eX12_readTest_51.2.2.1
theorem dX12_readTest_58 : decode cX12_readTest 58 = .ok (.iconst 3, 1) := eX12_readTest_51.2.2.2.1
theorem dX12_readTest_59 : decode cX12_readTest 59 = .ok (.if_icmp .ne 4, 3) := eX12_readTest_51.2.2.2.2.1
theorem dX12_readTest_62 : decode cX12_readTest 62 = .ok (.return_, 1) := eX12_readTest_51.2.2.2.2.2.1
theorem dX12_readTest_63 : decode cX12_readTest 63 = .ok (.aload_n 0, 1) := eX12_readTest_51.2.2.2.2.2.2.1
theorem dX12_readTest_64 : decode cX12_readTest 64 = .ok (.getfield 35, 3) := eX12_readTest_51.2.2.2.2.2.2.2.1
theorem eX12_readTest_67 : decode cX12_readTest 67 = .ok (.iload_n 1, 1) ∧ decode cX12_readTest 68 = .ok (.bipush 7, 2) ∧ decode cX12_readTest 70 = .ok (.iadd, 1) ∧ decode cX12_readTest 71 = .ok (.aload_n 0, 1) ∧ decode cX12_readTest 72 = .ok (.getfield 110, 3) ∧ decode cX12_readTest 75 = .ok (.iconst 3, 1) ∧ decode cX12_readTest 76 = .ok (.if_icmp .ne 10, 3) ∧ decode cX12_readTest 79 = .ok (.aload_n 0, 1) ∧ True := dkl_ok (c := cX12_readTest) [(.iload_n 1, 1), (.bipush 7, 2), (.iadd, 1), (.aload_n 0, 1), (.getfield 110, 3), (.iconst 3, 1), (.if_icmp .ne 10, 3), (.aload_n 0, 1)] 67 (by decide +kernel)
theorem dX12_readTest_67 : decode cX12_readTest 67 = .ok (.iload_n 1, 1) := eX12_readTest_67.1
theorem dX12_readTest_68 : decode cX12_readTest 68 = .ok (.bipush 7, 2) := eX12_readTest_67.2.1
theorem dX12_readTest_70 : decode cX12_readTest 70 = .ok (.iadd, 1) := eX12_readTest_67.2.2.1
theorem dX12_readTest_71 : decode cX12_readTest 71 = .ok (.aload_n 0, 1) := eX12_readTest_67.2.2.2.1
theorem dX12_readTest_72 : decode cX12_readTest 72 = .ok (.getfield 110, 3) := eX12_readTest_67.2.2.2.2.1
theorem dX12_readTest_75 : decode cX12_readTest 75 = .ok (.iconst 3, 1) := eX12_readTest_67.2.2.2.2.2.1
theorem dX12_readTest_76 : decode cX12_readTest 76 = .ok (.if_icmp .ne 10, 3) := eX12_readTest_67.2.2.2.2.2.2.1
theorem dX12_readTest_79 : decode cX12_readTest 79 = .ok (.aload_n 0, 1) := eX12_readTest_67.2.2.2.2.2.2.2.1
theorem eX12_readTest_80 : decode cX12_readTest 80 = .ok (.getfield 129, 3) ∧ decode cX12_readTest 83 = .ok (.goto 4, 3) ∧ decode cX12_readTest 86 = .ok (.iconst 0, 1) ∧ decode cX12_readTest 87 = .ok (.iastore, 1) ∧ decode cX12_readTest 88 = .ok (.aload_n 0, 1) ∧ decode cX12_readTest 89 = .ok (.aload_n 0, 1) ∧ decode cX12_readTest 90 = .ok (.bipush 60, 2) ∧ decode cX12_readTest 92 = .ok (.invokevirtual 243, 3) ∧ True := dkl_ok (c := cX12_readTest) [(.getfield 129, 3), (.goto 4, 3), (.iconst 0, 1), (.iastore, 1), (.aload_n 0, 1), (.aload_n 0, 1), (.bipush 60, 2), (.invokevirtual 243, 3)] 80 (by decide +kernel)
theorem dX12_readTest_80 : decode cX12_readTest 80 = .ok (.getfield 129, 3) := eX12_readTest_80.1
theorem dX12_readTest_83 : decode cX12_readTest 83 = .ok (.goto 4, 3) := eX12_readTest_80.2.1
theorem dX12_readTest_86 : decode cX12_readTest 86 = .ok (.iconst 0, 1) := eX12_readTest_80.2.2.1
theorem dX12_readTest_87 : decode cX12_readTest 87 = .ok (.iastore, 1) := eX12_readTest_80.2.2.2.1
theorem dX12_readTest_88 : decode cX12_readTest 88 = .ok (.aload_n 0, 1) := eX12_readTest_80.2.2.2.2.1
theorem dX12_readTest_89 : decode cX12_readTest 89 = .ok (.aload_n 0, 1) := eX12_readTest_80.2.2.2.2.2.1
theorem dX12_readTest_90 : decode cX12_readTest 90 = .ok (.bipush 60, 2) := eX12_readTest_80.2.2.2.2.2.2.1
theorem dX12_readTest_92 : decode cX12_readTest 92 = .ok (.invokevirtual 243, 3) := eX12_readTest_80.2.2.2.2.2.2.2.1
theorem eX12_readTest_95 : decode cX12_readTest 95 = .ok (.ifCond .ne 21, 3) ∧ decode cX12_readTest 98 = .ok (.aload_n 0, 1) ∧ decode cX12_readTest 99 = .ok (.bipush 62, 2) ∧ decode cX12_readTest 101 = .ok (.invokevirtual 243, 3) ∧ decode cX12_readTest 104 = .ok (.ifCond .ne 12, 3) ∧ decode cX12_readTest 107 = .ok (.aload_n 0, 1) ∧ decode cX12_readTest 108 = .ok (.bipush 61, 2) ∧ decode cX12_readTest 110 = .ok (.invokevirtual 243, 3) ∧ True := dkl_ok (c := cX12_readTest) [(.ifCond .ne 21, 3), (.aload_n 0, 1), (.bipush 62, 2), (.invokevirtual 243, 3), (.ifCond .ne 12, 3), (.aload_n 0, 1), (.bipush 61, 2), (.invokevirtual 243, 3)] 95 (by decide +kernel)
theorem dX12_readTest_95 : decode cX12_readTest 95 = .ok (.ifCond .ne 21, 3) := eX12_readTest_95.1
theorem dX12_readTest_98 : decode cX12_readTest 98 = .ok (.aload_n 0, 1) := eX12_readTest_95.2.1
theorem dX12_readTest_99 : decode cX12_readTest 99 = .ok (.bipush 62, 2) := eX12_readTest_95.2.2.1
theorem dX12_readTest_101 : decode cX12_readTest 101 = .ok (.invokevirtual 243, 3) := eX12_readTest_95.2.2.2.1
theorem dX12_readTest_104 : decode cX12_readTest 104 = .ok (.ifCond .ne 12, 3) := eX12_readTest_95.2.2.2.2.1
theorem dX12_readTest_107 : decode cX12_readTest 107 = .ok (.aload_n 0, 1) := eX12_readTest_95.2.2.2.2.2.1
theorem dX12_readTest_108 : decode cX12_readTest 108 = .ok (.bipush 61, 2) := eX12_readTest_95.2.2.2.2.2.2.1
theorem dX12_readTest_110 : decode cX12_readTest 110 = .ok (.invokevirtual 243, 3) := eX12_readTest_95.2.2.2.2.2.2.2.1
theorem eX12_readTest_113 : decode cX12_readTest 113 = .ok (.ifCond .eq 7, 3) ∧ decode cX12_readTest 116 = .ok (.iconst 1, 1) ∧ decode cX12_readTest 117 = .ok (.goto 4, 3) ∧ decode cX12_readTest 120 = .ok (.iconst 0, 1) ∧ decode cX12_readTest 121 = .ok (.invokevirtual 216, 3) ∧ decode cX12_readTest 124 = .ok (.aload_n 0, 1) ∧ decode cX12_readTest 125 = .ok (.getfield 35, 3) ∧ decode cX12_readTest 128 = .ok (.iload_n 1, 1) ∧ True := dkl_ok (c := cX12_readTest) [(.ifCond .eq 7, 3), (.iconst 1, 1), (.goto 4, 3), (.iconst 0, 1), (.invokevirtual 216, 3), (.aload_n 0, 1), (.getfield 35, 3), (.iload_n 1, 1)] 113 (by decide +kernel)
theorem dX12_readTest_113 : decode cX12_readTest 113 = .ok (.ifCond .eq 7, 3) := eX12_readTest_113.1
theorem dX12_readTest_116 : decode cX12_readTest 116 = .ok (.iconst 1, 1) := eX12_readTest_113.2.1
theorem dX12_readTest_117 : decode cX12_readTest 117 = .ok (.goto 4, 3) := eX12_readTest_113.2.2.1
theorem dX12_readTest_120 : decode cX12_readTest 120 = .ok (.iconst 0, 1) := eX12_readTest_113.2.2.2.1
theorem dX12_readTest_121 : decode cX12_readTest 121 = .ok (.invokevirtual 216, 3) := eX12_readTest_113.2.2.2.2.1
theorem dX12_readTest_124 : decode cX12_readTest 124 = .ok (.aload_n 0, 1) := eX12_readTest_113.2.2.2.2.2.1
theorem dX12_readTest_125 : decode cX12_readTest 125 = .ok (.getfield 35, 3) := eX12_readTest_113.2.2.2.2.2.2.1
theorem dX12_readTest_128 : decode cX12_readTest 128 = .ok (.iload_n 1, 1) := eX12_readTest_113.2.2.2.2.2.2.2.1
theorem eX12_readTest_129 : decode cX12_readTest 129 = .ok (.iconst 2, 1) ∧ decode cX12_readTest 130 = .ok (.iadd, 1) ∧ decode cX12_readTest 131 = .ok (.aload_n 0, 1) ∧ decode cX12_readTest 132 = .ok (.iconst 0, 1) ∧ decode cX12_readTest 133 = .ok (.iload_n 2, 1) ∧ decode cX12_readTest 134 = .ok (.iconst 2, 1) ∧ decode cX12_readTest 135 = .ok (.if_icmp .ne 9, 3) ∧ decode cX12_readTest 138 = .ok (.sipush 999, 3) ∧ True := dkl_ok (c := cX12_readTest) [(.iconst 2, 1), (.iadd, 1), (.aload_n 0, 1), (.iconst 0, 1), (.iload_n 2, 1), (.iconst 2, 1), (.if_icmp .ne 9, 3), (.sipush 999, 3)] 129 (by decide +kernel)
theorem dX12_readTest_129 : decode cX12_readTest 129 = .ok (.iconst 2, 1) := eX12_readTest_129.1
theorem dX12_readTest_130 : decode cX12_readTest 130 = .ok (.iadd, 1) := eX12_readTest_129.2.1
theorem dX12_readTest_131 : decode cX12_readTest 131 = .ok (.aload_n 0, 1) := eX12_readTest_129.2.2.1
theorem dX12_readTest_132 : decode cX12_readTest 132 = .ok (.iconst 0, 1) := eX12_readTest_129.2.2.2.1
theorem dX12_readTest_133 : decode cX12_readTest 133 = .ok (.iload_n 2, 1) := eX12_readTest_129.2.2.2.2.1
theorem dX12_readTest_134 : decode cX12_readTest 134 = .ok (.iconst 2, 1) := eX12_readTest_129.2.2.2.2.2.1
theorem dX12_readTest_135 : decode cX12_readTest 135 = .ok (.if_icmp .ne 9, 3) := eX12_readTest_129.2.2.2.2.2.2.1
theorem dX12_readTest_138 : decode cX12_readTest 138 = .ok (.sipush 999, 3) := eX12_readTest_129.2.2.2.2.2.2.2.1
theorem eX12_readTest_141 : decode cX12_readTest 141 = .ok (.goto 5, 3) ∧ decode cX12_readTest 144 = .ok (.bipush 80, 2) ∧ decode cX12_readTest 146 = .ok (.invokevirtual 223, 3) ∧ decode cX12_readTest 149 = .ok (.iastore, 1) ∧ decode cX12_readTest 150 = .ok (.return_, 1) ∧ True := dkl_ok (c := cX12_readTest) [(.goto 5, 3), (.bipush 80, 2), (.invokevirtual 223, 3), (.iastore, 1), (.return_, 1)] 141 (by decide +kernel)
theorem dX12_readTest_141 : decode cX12_readTest 141 = .ok (.goto 5, 3) := eX12_readTest_141.1
theorem dX12_readTest_144 : decode cX12_readTest 144 = .ok (.bipush 80, 2) := eX12_readTest_141.2.1
theorem dX12_readTest_146 : decode cX12_readTest 146 = .ok (.invokevirtual 223, 3) := eX12_readTest_141.2.2.1
theorem dX12_readTest_149 : decode cX12_readTest 149 = .ok (.iastore, 1) := eX12_readTest_141.2.2.2.1
theorem dX12_readTest_150 : decode cX12_readTest 150 = .ok (.return_, 1) := eX12_readTest_141.2.2.2.2.1
theorem eX12_readRest_0 : decode cX12_readRest 0 = .ok (.aload_n 0, 1) ∧ decode cX12_readRest 1 = .ok (.getfield 35, 3) ∧ decode cX12_readRest 4 = .ok (.iload_n 1, 1) ∧ decode cX12_readRest 5 = .ok (.iaload, 1) ∧ decode cX12_readRest 6 = .ok (.istore_n 2, 1) ∧ decode cX12_readRest 7 = .ok (.iload_n 2, 1) ∧ decode cX12_readRest 8 = .ok (.iconst 1, 1) ∧ decode cX12_readRest 9 = .ok (.if_icmp .eq 8, 3) ∧ True := dkl_ok (c := cX12_readRest) [(.aload_n 0, 1), (.getfield 35, 3), (.iload_n 1, 1), (.iaload, 1), (.istore_n 2, 1), (.iload_n 2, 1), (.iconst 1, 1), (.if_icmp .eq 8, 3)] 0 (by decide +kernel)
theorem dX12_readRest_0 : decode cX12_readRest 0 = .ok (.aload_n 0, 1) := eX12_readRest_0.1
theorem dX12_readRest_1 : decode cX12_readRest 1 = .ok (.getfield 35, 3) := eX12_readRest_0.2.1
theorem dX12_readRest_4 : decode cX12_readRest 4 = .ok (.iload_n 1, 1) := eX12_readRest_0.2.2.1
theorem dX12_readRest_5 : decode cX12_readRest 5 = .ok (.iaload, 1) := eX12_readRest_0.2.2.2.1
theorem dX12_readRest_6 : decode cX12_readRest 6 = .ok (.istore_n 2, 1) := eX12_readRest_0.2.2.2.2.1
theorem dX12_readRest_7 : decode cX12_readRest 7 = .ok (.iload_n 2, 1) := eX12_readRest_0.2.2.2.2.2.1
theorem dX12_readRest_8 : decode cX12_readRest 8 = .ok (.iconst 1, 1) := eX12_readRest_0.2.2.2.2.2.2.1
theorem dX12_readRest_9 : decode cX12_readRest 9 = .ok (.if_icmp .eq 8, 3) := eX12_readRest_0.2.2.2.2.2.2.2.1
theorem eX12_readRest_12 : decode cX12_readRest 12 = .ok (.iload_n 2, 1) ∧ decode cX12_readRest 13 = .ok (.iconst 2, 1) ∧ decode cX12_readRest 14 = .ok (.if_icmp .ne 34, 3) ∧ decode cX12_readRest 17 = .ok (.aload_n 0, 1) ∧ decode cX12_readRest 18 = .ok (.getfield 35, 3) ∧ decode cX12_readRest 21 = .ok (.iload_n 1, 1) ∧ decode cX12_readRest 22 = .ok (.iconst 1, 1) ∧ decode cX12_readRest 23 = .ok (.iadd, 1) ∧ True := dkl_ok (c := cX12_readRest) [(.iload_n 2, 1), (.iconst 2, 1), (.if_icmp .ne 34, 3), (.aload_n 0, 1), (.getfield 35, 3), (.iload_n 1, 1), (.iconst 1, 1), (.iadd, 1)] 12 (by decide +kernel)
theorem dX12_readRest_12 : decode cX12_readRest 12 = .ok (.iload_n 2, 1) := eX12_readRest_12.1
theorem dX12_readRest_13 : decode cX12_readRest 13 = .ok (.iconst 2, 1) := eX12_readRest_12.2.1
theorem dX12_readRest_14 : decode cX12_readRest 14 = .ok (.if_icmp .ne 34, 3) := eX12_readRest_12.2.2.1
theorem dX12_readRest_17 : decode cX12_readRest 17 = .ok (.aload_n 0, 1) := eX12_readRest_12.2.2.2.1
theorem dX12_readRest_18 : decode cX12_readRest 18 = .ok (.getfield 35, 3) := eX12_readRest_12.2.2.2.2.1
theorem dX12_readRest_21 : decode cX12_readRest 21 = .ok (.iload_n 1, 1) := eX12_readRest_12.2.2.2.2.2.1
theorem dX12_readRest_22 : decode cX12_readRest 22 = .ok (.iconst 1, 1) := eX12_readRest_12.2.2.2.2.2.2.1
theorem dX12_readRest_23 : decode cX12_readRest 23 = .ok (.iadd, 1) := eX12_readRest_12.2.2.2.2.2.2.2.1
theorem eX12_readRest_24 : decode cX12_readRest 24 = .ok (.aload_n 0, 1) ∧ decode cX12_readRest 25 = .ok (.iconst 0, 1) ∧ decode cX12_readRest 26 = .ok (.invokevirtual 226, 3) ∧ decode cX12_readRest 29 = .ok (.iastore, 1) ∧ decode cX12_readRest 30 = .ok (.aload_n 0, 1) ∧ decode cX12_readRest 31 = .ok (.getfield 35, 3) ∧ decode cX12_readRest 34 = .ok (.iload_n 1, 1) ∧ decode cX12_readRest 35 = .ok (.iconst 2, 1) ∧ True := dkl_ok (c := cX12_readRest) [(.aload_n 0, 1), (.iconst 0, 1), (.invokevirtual 226, 3), (.iastore, 1), (.aload_n 0, 1), (.getfield 35, 3), (.iload_n 1, 1), (.iconst 2, 1)] 24 (by decide +kernel)
theorem dX12_readRest_24 : decode cX12_readRest 24 = .ok (.aload_n 0, 1) := eX12_readRest_24.1
theorem dX12_readRest_25 : decode cX12_readRest 25 = .ok (.iconst 0, 1) := eX12_readRest_24.2.1
theorem dX12_readRest_26 : decode cX12_readRest 26 = .ok (.invokevirtual 226, 3) := eX12_readRest_24.2.2.1
theorem dX12_readRest_29 : decode cX12_readRest 29 = .ok (.iastore, 1) := eX12_readRest_24.2.2.2.1
theorem dX12_readRest_30 : decode cX12_readRest 30 = .ok (.aload_n 0, 1) := eX12_readRest_24.2.2.2.2.1
theorem dX12_readRest_31 : decode cX12_readRest 31 = .ok (.getfield 35, 3) := eX12_readRest_24.2.2.2.2.2.1
theorem dX12_readRest_34 : decode cX12_readRest 34 = .ok (.iload_n 1, 1) := eX12_readRest_24.2.2.2.2.2.2.1
theorem dX12_readRest_35 : decode cX12_readRest 35 = .ok (.iconst 2, 1) := eX12_readRest_24.2.2.2.2.2.2.2.1
theorem eX12_readRest_36 : decode cX12_readRest 36 = .ok (.iadd, 1) ∧ decode cX12_readRest 37 = .ok (.aload_n 0, 1) ∧ decode cX12_readRest 38 = .ok (.iconst 0, 1) ∧ decode cX12_readRest 39 = .ok (.bipush 16, 2) ∧ decode cX12_readRest 41 = .ok (.invokevirtual 223, 3) ∧ decode cX12_readRest 44 = .ok (.iastore, 1) ∧ decode cX12_readRest 45 = .ok (.goto 36, 3) ∧ decode cX12_readRest 48 = .ok (.iload_n 2, 1) ∧ True := dkl_ok (c := cX12_readRest) [(.iadd, 1), (.aload_n 0, 1), (.iconst 0, 1), (.bipush 16, 2), (.invokevirtual 223, 3), (.iastore, 1), (.goto 36, 3), (.iload_n 2, 1)] 36 (by decide +kernel)
theorem dX12_readRest_36 : decode cX12_readRest 36 = .ok (.iadd, 1) := eX12_readRest_36.1
theorem dX12_readRest_37 : decode cX12_readRest 37 = .ok (.aload_n 0, 1) := eX12_readRest_36.2.1
theorem dX12_readRest_38 : decode cX12_readRest 38 = .ok (.iconst 0, 1) := eX12_readRest_36.2.2.1
theorem dX12_readRest_39 : decode cX12_readRest 39 = .ok (.bipush 16, 2) := eX12_readRest_36.2.2.2.1
theorem dX12_readRest_41 : decode cX12_readRest 41 = .ok (.invokevirtual 223, 3) := eX12_readRest_36.2.2.2.2.1
theorem dX12_readRest_44 : decode cX12_readRest 44 = .ok (.iastore, 1) := eX12_readRest_36.2.2.2.2.2.1
theorem dX12_readRest_45 : decode cX12_readRest 45 = .ok (.goto 36, 3) := eX12_readRest_36.2.2.2.2.2.2.1
theorem dX12_readRest_48 : decode cX12_readRest 48 = .ok (.iload_n 2, 1) := eX12_readRest_36.2.2.2.2.2.2.2.1
theorem eX12_readRest_49 : decode cX12_readRest 49 = .ok (.iconst 3, 1) ∧ decode cX12_readRest 50 = .ok (.if_icmp .ne 11, 3) ∧ decode cX12_readRest 53 = .ok (.aload_n 0, 1) ∧ decode cX12_readRest 54 = .ok (.iload_n 1, 1) ∧ decode cX12_readRest 55 = .ok (.invokevirtual 264, 3) ∧ decode cX12_readRest 58 = .ok (.goto 23, 3) ∧ decode cX12_readRest 61 = .ok (.iload_n 2, 1) ∧ decode cX12_readRest 62 = .ok (.iconst 4, 1) ∧ True := dkl_ok (c := cX12_readRest) [(.iconst 3, 1), (.if_icmp .ne 11, 3), (.aload_n 0, 1), (.iload_n 1, 1), (.invokevirtual 264, 3), (.goto 23, 3), (.iload_n 2, 1), (.iconst 4, 1)] 49 (by decide +kernel)
theorem dX12_readRest_49 : decode cX12_readRest 49 = .ok (.iconst 3, 1) := eX12_readRest_49.1
theorem dX12_readRest_50 : decode cX12_readRest 50 = .ok (.if_icmp .ne 11, 3) := eX12_readRest_49.2.1
theorem dX12_readRest_53 : decode cX12_readRest 53 = .ok (.aload_n 0, 1) := eX12_readRest_49.2.2.1
theorem dX12_readRest_54 : decode cX12_readRest 54 = .ok (.iload_n 1, 1) := eX12_readRest_49.2.2.2.1
theorem dX12_readRest_55 : decode cX12_readRest 55 = .ok (.invokevirtual 264, 3) := eX12_readRest_49.2.2.2.2.1
theorem dX12_readRest_58 : decode cX12_readRest 58 = .ok (.goto 23, 3) := eX12_readRest_49.2.2.2.2.2.1
theorem dX12_readRest_61 : decode cX12_readRest 61 = .ok (.iload_n 2, 1) := eX12_readRest_49.2.2.2.2.2.2.1
theorem dX12_readRest_62 : decode cX12_readRest 62 = .ok (.iconst 4, 1) := eX12_readRest_49.2.2.2.2.2.2.2.1
theorem eX12_readRest_63 : decode cX12_readRest 63 = .ok (.if_icmp .ne 18, 3) ∧ decode cX12_readRest 66 = .ok (.aload_n 0, 1) ∧ decode cX12_readRest 67 = .ok (.getfield 35, 3) ∧ decode cX12_readRest 70 = .ok (.iload_n 1, 1) ∧ decode cX12_readRest 71 = .ok (.iconst 1, 1) ∧ decode cX12_readRest 72 = .ok (.iadd, 1) ∧ decode cX12_readRest 73 = .ok (.aload_n 0, 1) ∧ decode cX12_readRest 74 = .ok (.iconst 1, 1) ∧ True := dkl_ok (c := cX12_readRest) [(.if_icmp .ne 18, 3), (.aload_n 0, 1), (.getfield 35, 3), (.iload_n 1, 1), (.iconst 1, 1), (.iadd, 1), (.aload_n 0, 1), (.iconst 1, 1)] 63 (by decide +kernel)
theorem dX12_readRest_63 : decode cX12_readRest 63 = .ok (.if_icmp .ne 18, 3) := eX12_readRest_63.1
theorem dX12_readRest_66 : decode cX12_readRest 66 = .ok (.aload_n 0, 1) := eX12_readRest_63.2.1
theorem dX12_readRest_67 : decode cX12_readRest 67 = .ok (.getfield 35, 3) := eX12_readRest_63.2.2.1
theorem dX12_readRest_70 : decode cX12_readRest 70 = .ok (.iload_n 1, 1) := eX12_readRest_63.2.2.2.1
theorem dX12_readRest_71 : decode cX12_readRest 71 = .ok (.iconst 1, 1) := eX12_readRest_63.2.2.2.2.1
theorem dX12_readRest_72 : decode cX12_readRest 72 = .ok (.iadd, 1) := eX12_readRest_63.2.2.2.2.2.1
theorem dX12_readRest_73 : decode cX12_readRest 73 = .ok (.aload_n 0, 1) := eX12_readRest_63.2.2.2.2.2.2.1
theorem dX12_readRest_74 : decode cX12_readRest 74 = .ok (.iconst 1, 1) := eX12_readRest_63.2.2.2.2.2.2.2.1
theorem eX12_readRest_75 : decode cX12_readRest 75 = .ok (.bipush 99, 2) ∧ decode cX12_readRest 77 = .ok (.invokevirtual 223, 3) ∧ decode cX12_readRest 80 = .ok (.iastore, 1) ∧ decode cX12_readRest 81 = .ok (.return_, 1) ∧ True := dkl_ok (c := cX12_readRest) [(.bipush 99, 2), (.invokevirtual 223, 3), (.iastore, 1), (.return_, 1)] 75 (by decide +kernel)
theorem dX12_readRest_75 : decode cX12_readRest 75 = .ok (.bipush 99, 2) := eX12_readRest_75.1
theorem dX12_readRest_77 : decode cX12_readRest 77 = .ok (.invokevirtual 223, 3) := eX12_readRest_75.2.1
theorem dX12_readRest_80 : decode cX12_readRest 80 = .ok (.iastore, 1) := eX12_readRest_75.2.2.1
theorem dX12_readRest_81 : decode cX12_readRest 81 = .ok (.return_, 1) := eX12_readRest_75.2.2.2.1
theorem eX12_readStep_0 : decode cX12_readStep 0 = .ok (.aload_n 0, 1) ∧ decode cX12_readStep 1 = .ok (.invokevirtual 175, 3) ∧ decode cX12_readStep 4 = .ok (.istore_n 2, 1) ∧ decode cX12_readStep 5 = .ok (.iload_n 2, 1) ∧ decode cX12_readStep 6 = .ok (.iconst 3, 1) ∧ decode cX12_readStep 7 = .ok (.if_icmp .eq 8, 3) ∧ decode cX12_readStep 10 = .ok (.iload_n 2, 1) ∧ decode cX12_readStep 11 = .ok (.iconst 4, 1) ∧ True := dkl_ok (c := cX12_readStep) [(.aload_n 0, 1), (.invokevirtual 175, 3), (.istore_n 2, 1), (.iload_n 2, 1), (.iconst 3, 1), (.if_icmp .eq 8, 3), (.iload_n 2, 1), (.iconst 4, 1)] 0 (by decide +kernel)
theorem dX12_readStep_0 : decode cX12_readStep 0 = .ok (.aload_n 0, 1) := eX12_readStep_0.1
theorem dX12_readStep_1 : decode cX12_readStep 1 = .ok (.invokevirtual 175, 3) := eX12_readStep_0.2.1
theorem dX12_readStep_4 : decode cX12_readStep 4 = .ok (.istore_n 2, 1) := eX12_readStep_0.2.2.1
theorem dX12_readStep_5 : decode cX12_readStep 5 = .ok (.iload_n 2, 1) := eX12_readStep_0.2.2.2.1
theorem dX12_readStep_6 : decode cX12_readStep 6 = .ok (.iconst 3, 1) := eX12_readStep_0.2.2.2.2.1
theorem dX12_readStep_7 : decode cX12_readStep 7 = .ok (.if_icmp .eq 8, 3) := eX12_readStep_0.2.2.2.2.2.1
theorem dX12_readStep_10 : decode cX12_readStep 10 = .ok (.iload_n 2, 1) := eX12_readStep_0.2.2.2.2.2.2.1
theorem dX12_readStep_11 : decode cX12_readStep 11 = .ok (.iconst 4, 1) := eX12_readStep_0.2.2.2.2.2.2.2.1
theorem eX12_readStep_12 : decode cX12_readStep 12 = .ok (.if_icmp .ne 7, 3) ∧ decode cX12_readStep 15 = .ok (.iconst 1, 1) ∧ decode cX12_readStep 16 = .ok (.goto 4, 3) ∧ decode cX12_readStep 19 = .ok (.iconst 0, 1) ∧ decode cX12_readStep 20 = .ok (.istore_n 3, 1) ∧ decode cX12_readStep 21 = .ok (.iload_n 2, 1) ∧ decode cX12_readStep 22 = .ok (.ifCond .ge 7, 3) ∧ decode cX12_readStep 25 = .ok (.aload_n 0, 1) ∧ True := dkl_ok (c := cX12_readStep) [(.if_icmp .ne 7, 3), (.iconst 1, 1), (.goto 4, 3), (.iconst 0, 1), (.istore_n 3, 1), (.iload_n 2, 1), (.ifCond .ge 7, 3), (.aload_n 0, 1)] 12 (by decide +kernel)
theorem dX12_readStep_12 : decode cX12_readStep 12 = .ok (.if_icmp .ne 7, 3) := eX12_readStep_12.1
theorem dX12_readStep_15 : decode cX12_readStep 15 = .ok (.iconst 1, 1) := eX12_readStep_12.2.1
theorem dX12_readStep_16 : decode cX12_readStep 16 = .ok (.goto 4, 3) := eX12_readStep_12.2.2.1
theorem dX12_readStep_19 : decode cX12_readStep 19 = .ok (.iconst 0, 1) := eX12_readStep_12.2.2.2.1
theorem dX12_readStep_20 : decode cX12_readStep 20 = .ok (.istore_n 3, 1) := eX12_readStep_12.2.2.2.2.1
theorem dX12_readStep_21 : decode cX12_readStep 21 = .ok (.iload_n 2, 1) := eX12_readStep_12.2.2.2.2.2.1
theorem dX12_readStep_22 : decode cX12_readStep 22 = .ok (.ifCond .ge 7, 3) := eX12_readStep_12.2.2.2.2.2.2.1
theorem dX12_readStep_25 : decode cX12_readStep 25 = .ok (.aload_n 0, 1) := eX12_readStep_12.2.2.2.2.2.2.2.1
theorem eX12_readStep_26 : decode cX12_readStep 26 = .ok (.invokevirtual 200, 3) ∧ decode cX12_readStep 29 = .ok (.aload_n 0, 1) ∧ decode cX12_readStep 30 = .ok (.getfield 187, 3) ∧ decode cX12_readStep 33 = .ok (.ifCond .ne 22, 3) ∧ decode cX12_readStep 36 = .ok (.aload_n 0, 1) ∧ decode cX12_readStep 37 = .ok (.getfield 267, 3) ∧ decode cX12_readStep 40 = .ok (.bipush 30, 2) ∧ decode cX12_readStep 42 = .ok (.if_icmp .ne 13, 3) ∧ True := dkl_ok (c := cX12_readStep) [(.invokevirtual 200, 3), (.aload_n 0, 1), (.getfield 187, 3), (.ifCond .ne 22, 3), (.aload_n 0, 1), (.getfield 267, 3), (.bipush 30, 2), (.if_icmp .ne 13, 3)] 26 (by decide +kernel)
theorem dX12_readStep_26 : decode cX12_readStep 26 = .ok (.invokevirtual 200, 3) := eX12_readStep_26.1
theorem dX12_readStep_29 : decode cX12_readStep 29 = .ok (.aload_n 0, 1) := eX12_readStep_26.2.1
theorem dX12_readStep_30 : decode cX12_readStep 30 = .ok (.getfield 187, 3) := eX12_readStep_26.2.2.1
theorem dX12_readStep_33 : decode cX12_readStep 33 = .ok (.ifCond .ne 22, 3) := eX12_readStep_26.2.2.2.1
theorem dX12_readStep_36 : decode cX12_readStep 36 = .ok (.aload_n 0, 1) := eX12_readStep_26.2.2.2.2.1
theorem dX12_readStep_37 : decode cX12_readStep 37 = .ok (.getfield 267, 3) := eX12_readStep_26.2.2.2.2.2.1
theorem dX12_readStep_40 : decode cX12_readStep 40 = .ok (.bipush 30, 2) := eX12_readStep_26.2.2.2.2.2.2.1
theorem dX12_readStep_42 : decode cX12_readStep 42 = .ok (.if_icmp .ne 13, 3) := eX12_readStep_26.2.2.2.2.2.2.2.1
theorem eX12_readStep_45 : decode cX12_readStep 45 = .ok (.aload_n 0, 1) ∧ decode cX12_readStep 46 = .ok (.bipush 6, 2) ∧ decode cX12_readStep 48 = .ok (.aload_n 0, 1) ∧ decode cX12_readStep 49 = .ok (.getfield 104, 3) ∧ decode cX12_readStep 52 = .ok (.invokevirtual 193, 3) ∧ decode cX12_readStep 55 = .ok (.aload_n 0, 1) ∧ decode cX12_readStep 56 = .ok (.getfield 187, 3) ∧ decode cX12_readStep 59 = .ok (.ifCond .ne 22, 3) ∧ True := dkl_ok (c := cX12_readStep) [(.aload_n 0, 1), (.bipush 6, 2), (.aload_n 0, 1), (.getfield 104, 3), (.invokevirtual 193, 3), (.aload_n 0, 1), (.getfield 187, 3), (.ifCond .ne 22, 3)] 45 (by decide +kernel)
theorem dX12_readStep_45 : decode cX12_readStep 45 = .ok (.aload_n 0, 1) := eX12_readStep_45.1
theorem dX12_readStep_46 : decode cX12_readStep 46 = .ok (.bipush 6, 2) := eX12_readStep_45.2.1
theorem dX12_readStep_48 : decode cX12_readStep 48 = .ok (.aload_n 0, 1) := eX12_readStep_45.2.2.1
theorem dX12_readStep_49 : decode cX12_readStep 49 = .ok (.getfield 104, 3) := eX12_readStep_45.2.2.2.1
theorem dX12_readStep_52 : decode cX12_readStep 52 = .ok (.invokevirtual 193, 3) := eX12_readStep_45.2.2.2.2.1
theorem dX12_readStep_55 : decode cX12_readStep 55 = .ok (.aload_n 0, 1) := eX12_readStep_45.2.2.2.2.2.1
theorem dX12_readStep_56 : decode cX12_readStep 56 = .ok (.getfield 187, 3) := eX12_readStep_45.2.2.2.2.2.2.1
theorem dX12_readStep_59 : decode cX12_readStep 59 = .ok (.ifCond .ne 22, 3) := eX12_readStep_45.2.2.2.2.2.2.2.1
theorem eX12_readStep_62 : decode cX12_readStep 62 = .ok (.iload_n 3, 1) ∧ decode cX12_readStep 63 = .ok (.ifCond .eq 18, 3) ∧ decode cX12_readStep 66 = .ok (.iload_n 1, 1) ∧ decode cX12_readStep 67 = .ok (.iconst 3, 1) ∧ decode cX12_readStep 68 = .ok (.if_icmp .ne 13, 3) ∧ decode cX12_readStep 71 = .ok (.aload_n 0, 1) ∧ decode cX12_readStep 72 = .ok (.bipush 7, 2) ∧ decode cX12_readStep 74 = .ok (.aload_n 0, 1) ∧ True := dkl_ok (c := cX12_readStep) [(.iload_n 3, 1), (.ifCond .eq 18, 3), (.iload_n 1, 1), (.iconst 3, 1), (.if_icmp .ne 13, 3), (.aload_n 0, 1), (.bipush 7, 2), (.aload_n 0, 1)] 62 (by decide +kernel)
theorem dX12_readStep_62 : decode cX12_readStep 62 = .ok (.iload_n 3, 1) := eX12_readStep_62.1
theorem dX12_readStep_63 : decode cX12_readStep 63 = .ok (.ifCond .eq 18, 3) := eX12_readStep_62.2.1
theorem dX12_readStep_66 : decode cX12_readStep 66 = .ok (.iload_n 1, 1) := eX12_readStep_62.2.2.1
theorem dX12_readStep_67 : decode cX12_readStep 67 = .ok (.iconst 3, 1) := eX12_readStep_62.2.2.2.1
theorem dX12_readStep_68 : decode cX12_readStep 68 = .ok (.if_icmp .ne 13, 3) := eX12_readStep_62.2.2.2.2.1
theorem dX12_readStep_71 : decode cX12_readStep 71 = .ok (.aload_n 0, 1) := eX12_readStep_62.2.2.2.2.2.1
theorem dX12_readStep_72 : decode cX12_readStep 72 = .ok (.bipush 7, 2) := eX12_readStep_62.2.2.2.2.2.2.1
theorem dX12_readStep_74 : decode cX12_readStep 74 = .ok (.aload_n 0, 1) := eX12_readStep_62.2.2.2.2.2.2.2.1
theorem eX12_readStep_75 : decode cX12_readStep 75 = .ok (.getfield 104, 3) ∧ decode cX12_readStep 78 = .ok (.invokevirtual 193, 3) ∧ decode cX12_readStep 81 = .ok (.aload_n 0, 1) ∧ decode cX12_readStep 82 = .ok (.getfield 187, 3) ∧ decode cX12_readStep 85 = .ok (.ifCond .le 4, 3) ∧ decode cX12_readStep 88 = .ok (.return_, 1) ∧ decode cX12_readStep 89 = .ok (.sipush 4376, 3) ∧ decode cX12_readStep 92 = .ok (.bipush 9, 2) ∧ True := dkl_ok (c := cX12_readStep) [(.getfield 104, 3), (.invokevirtual 193, 3), (.aload_n 0, 1), (.getfield 187, 3), (.ifCond .le 4, 3), (.return_, 1), (.sipush 4376, 3), (.bipush 9, 2)] 75 (by decide +kernel)
theorem dX12_readStep_75 : decode cX12_readStep 75 = .ok (.getfield 104, 3) := eX12_readStep_75.1
theorem dX12_readStep_78 : decode cX12_readStep 78 = .ok (.invokevirtual 193, 3) := eX12_readStep_75.2.1
theorem dX12_readStep_81 : decode cX12_readStep 81 = .ok (.aload_n 0, 1) := eX12_readStep_75.2.2.1
theorem dX12_readStep_82 : decode cX12_readStep 82 = .ok (.getfield 187, 3) := eX12_readStep_75.2.2.2.1
theorem dX12_readStep_85 : decode cX12_readStep 85 = .ok (.ifCond .le 4, 3) := eX12_readStep_75.2.2.2.2.1
theorem dX12_readStep_88 : decode cX12_readStep 88 = .ok (.return_, 1) := eX12_readStep_75.2.2.2.2.2.1
theorem dX12_readStep_89 : decode cX12_readStep 89 = .ok (.sipush 4376, 3) := eX12_readStep_75.2.2.2.2.2.2.1
theorem dX12_readStep_92 : decode cX12_readStep 92 = .ok (.bipush 9, 2) := eX12_readStep_75.2.2.2.2.2.2.2.1
theorem eX12_readStep_94 : decode cX12_readStep 94 = .ok (.aload_n 0, 1) ∧ decode cX12_readStep 95 = .ok (.getfield 267, 3) ∧ decode cX12_readStep 98 = .ok (.imul, 1) ∧ decode cX12_readStep 99 = .ok (.iadd, 1) ∧ decode cX12_readStep 100 = .ok (.istore 4, 2) ∧ decode cX12_readStep 102 = .ok (.aload_n 0, 1) ∧ decode cX12_readStep 103 = .ok (.dup, 1) ∧ decode cX12_readStep 104 = .ok (.getfield 267, 3) ∧ True := dkl_ok (c := cX12_readStep) [(.aload_n 0, 1), (.getfield 267, 3), (.imul, 1), (.iadd, 1), (.istore 4, 2), (.aload_n 0, 1), (.dup, 1), (.getfield 267, 3)] 94 (by decide +kernel)
theorem dX12_readStep_94 : decode cX12_readStep 94 = .ok (.aload_n 0, 1) := eX12_readStep_94.1
theorem dX12_readStep_95 : decode cX12_readStep 95 = .ok (.getfield 267, 3) := eX12_readStep_94.2.1
theorem dX12_readStep_98 : decode cX12_readStep 98 = .ok (.imul, 1) := eX12_readStep_94.2.2.1
theorem dX12_readStep_99 : decode cX12_readStep 99 = .ok (.iadd, 1) := eX12_readStep_94.2.2.2.1
theorem dX12_readStep_100 : decode cX12_readStep 100 = .ok (.istore 4, 2) := eX12_readStep_94.2.2.2.2.1
theorem dX12_readStep_102 : decode cX12_readStep 102 = .ok (.aload_n 0, 1) := eX12_readStep_94.2.2.2.2.2.1
theorem dX12_readStep_103 : decode cX12_readStep 103 = .ok (.dup, 1) := eX12_readStep_94.2.2.2.2.2.2.1
theorem dX12_readStep_104 : decode cX12_readStep 104 = .ok (.getfield 267, 3) := eX12_readStep_94.2.2.2.2.2.2.2.1
theorem eX12_readStep_107 : decode cX12_readStep 107 = .ok (.iconst 1, 1) ∧ decode cX12_readStep 108 = .ok (.iadd, 1) ∧ decode cX12_readStep 109 = .ok (.putfield 267, 3) ∧ decode cX12_readStep 112 = .ok (.aload_n 0, 1) ∧ decode cX12_readStep 113 = .ok (.invokevirtual 197, 3) ∧ decode cX12_readStep 116 = .ok (.aload_n 0, 1) ∧ decode cX12_readStep 117 = .ok (.getfield 35, 3) ∧ decode cX12_readStep 120 = .ok (.iload 4, 2) ∧ True := dkl_ok (c := cX12_readStep) [(.iconst 1, 1), (.iadd, 1), (.putfield 267, 3), (.aload_n 0, 1), (.invokevirtual 197, 3), (.aload_n 0, 1), (.getfield 35, 3), (.iload 4, 2)] 107 (by decide +kernel)
theorem dX12_readStep_107 : decode cX12_readStep 107 = .ok (.iconst 1, 1) := eX12_readStep_107.1
theorem dX12_readStep_108 : decode cX12_readStep 108 = .ok (.iadd, 1) := eX12_readStep_107.2.1
theorem dX12_readStep_109 : decode cX12_readStep 109 = .ok (.putfield 267, 3) := eX12_readStep_107.2.2.1
theorem dX12_readStep_112 : decode cX12_readStep 112 = .ok (.aload_n 0, 1) := eX12_readStep_107.2.2.2.1
theorem dX12_readStep_113 : decode cX12_readStep 113 = .ok (.invokevirtual 197, 3) := eX12_readStep_107.2.2.2.2.1
theorem dX12_readStep_116 : decode cX12_readStep 116 = .ok (.aload_n 0, 1) := eX12_readStep_107.2.2.2.2.2.1
theorem dX12_readStep_117 : decode cX12_readStep 117 = .ok (.getfield 35, 3) := eX12_readStep_107.2.2.2.2.2.2.1
theorem dX12_readStep_120 : decode cX12_readStep 120 = .ok (.iload 4, 2) := eX12_readStep_107.2.2.2.2.2.2.2.1
theorem eX12_readStep_122 : decode cX12_readStep 122 = .ok (.iload_n 2, 1) ∧ decode cX12_readStep 123 = .ok (.iastore, 1) ∧ decode cX12_readStep 124 = .ok (.aload_n 0, 1) ∧ decode cX12_readStep 125 = .ok (.iload 4, 2) ∧ decode cX12_readStep 127 = .ok (.invokevirtual 270, 3) ∧ decode cX12_readStep 130 = .ok (.aload_n 0, 1) ∧ decode cX12_readStep 131 = .ok (.aload_n 0, 1) ∧ decode cX12_readStep 132 = .ok (.bipush 59, 2) ∧ True := dkl_ok (c := cX12_readStep) [(.iload_n 2, 1), (.iastore, 1), (.aload_n 0, 1), (.iload 4, 2), (.invokevirtual 270, 3), (.aload_n 0, 1), (.aload_n 0, 1), (.bipush 59, 2)] 122 (by decide +kernel)
theorem dX12_readStep_122 : decode cX12_readStep 122 = .ok (.iload_n 2, 1) := eX12_readStep_122.1
theorem dX12_readStep_123 : decode cX12_readStep 123 = .ok (.iastore, 1) := eX12_readStep_122.2.1
theorem dX12_readStep_124 : decode cX12_readStep 124 = .ok (.aload_n 0, 1) := eX12_readStep_122.2.2.1
theorem dX12_readStep_125 : decode cX12_readStep 125 = .ok (.iload 4, 2) := eX12_readStep_122.2.2.2.1
theorem dX12_readStep_127 : decode cX12_readStep 127 = .ok (.invokevirtual 270, 3) := eX12_readStep_122.2.2.2.2.1
theorem dX12_readStep_130 : decode cX12_readStep 130 = .ok (.aload_n 0, 1) := eX12_readStep_122.2.2.2.2.2.1
theorem dX12_readStep_131 : decode cX12_readStep 131 = .ok (.aload_n 0, 1) := eX12_readStep_122.2.2.2.2.2.2.1
theorem dX12_readStep_132 : decode cX12_readStep 132 = .ok (.bipush 59, 2) := eX12_readStep_122.2.2.2.2.2.2.2.1
theorem eX12_readStep_134 : decode cX12_readStep 134 = .ok (.invokevirtual 243, 3) ∧ decode cX12_readStep 137 = .ok (.invokevirtual 216, 3) ∧ decode cX12_readStep 140 = .ok (.iload_n 3, 1) ∧ decode cX12_readStep 141 = .ok (.ifCond .eq 27, 3) ∧ decode cX12_readStep 144 = .ok (.aload_n 0, 1) ∧ decode cX12_readStep 145 = .ok (.getfield 187, 3) ∧ decode cX12_readStep 148 = .ok (.ifCond .ne 20, 3) ∧ decode cX12_readStep 151 = .ok (.aload_n 0, 1) ∧ True := dkl_ok (c := cX12_readStep) [(.invokevirtual 243, 3), (.invokevirtual 216, 3), (.iload_n 3, 1), (.ifCond .eq 27, 3), (.aload_n 0, 1), (.getfield 187, 3), (.ifCond .ne 20, 3), (.aload_n 0, 1)] 134 (by decide +kernel)
theorem dX12_readStep_134 : decode cX12_readStep 134 = .ok (.invokevirtual 243, 3) := eX12_readStep_134.1
theorem dX12_readStep_137 : decode cX12_readStep 137 = .ok (.invokevirtual 216, 3) := eX12_readStep_134.2.1
theorem dX12_readStep_140 : decode cX12_readStep 140 = .ok (.iload_n 3, 1) := eX12_readStep_134.2.2.1
theorem dX12_readStep_141 : decode cX12_readStep 141 = .ok (.ifCond .eq 27, 3) := eX12_readStep_134.2.2.2.1
theorem dX12_readStep_144 : decode cX12_readStep 144 = .ok (.aload_n 0, 1) := eX12_readStep_134.2.2.2.2.1
theorem dX12_readStep_145 : decode cX12_readStep 145 = .ok (.getfield 187, 3) := eX12_readStep_134.2.2.2.2.2.1
theorem dX12_readStep_148 : decode cX12_readStep 148 = .ok (.ifCond .ne 20, 3) := eX12_readStep_134.2.2.2.2.2.2.1
theorem dX12_readStep_151 : decode cX12_readStep 151 = .ok (.aload_n 0, 1) := eX12_readStep_134.2.2.2.2.2.2.2.1
theorem eX12_readStep_152 : decode cX12_readStep 152 = .ok (.invokevirtual 181, 3) ∧ decode cX12_readStep 155 = .ok (.ifCond .ne 13, 3) ∧ decode cX12_readStep 158 = .ok (.aload_n 0, 1) ∧ decode cX12_readStep 159 = .ok (.iload_n 1, 1) ∧ decode cX12_readStep 160 = .ok (.iconst 1, 1) ∧ decode cX12_readStep 161 = .ok (.iadd, 1) ∧ decode cX12_readStep 162 = .ok (.invokevirtual 273, 3) ∧ decode cX12_readStep 165 = .ok (.goto (-25), 3) ∧ True := dkl_ok (c := cX12_readStep) [(.invokevirtual 181, 3), (.ifCond .ne 13, 3), (.aload_n 0, 1), (.iload_n 1, 1), (.iconst 1, 1), (.iadd, 1), (.invokevirtual 273, 3), (.goto (-25), 3)] 152 (by decide +kernel)
theorem dX12_readStep_152 : decode cX12_readStep 152 = .ok (.invokevirtual 181, 3) := eX12_readStep_152.1
theorem dX12_readStep_155 : decode cX12_readStep 155 = .ok (.ifCond .ne 13, 3) := eX12_readStep_152.2.1
theorem dX12_readStep_158 : decode cX12_readStep 158 = .ok (.aload_n 0, 1) := eX12_readStep_152.2.2.1
theorem dX12_readStep_159 : decode cX12_readStep 159 = .ok (.iload_n 1, 1) := eX12_readStep_152.2.2.2.1
theorem dX12_readStep_160 : decode cX12_readStep 160 = .ok (.iconst 1, 1) := eX12_readStep_152.2.2.2.2.1
theorem dX12_readStep_161 : decode cX12_readStep 161 = .ok (.iadd, 1) := eX12_readStep_152.2.2.2.2.2.1
theorem dX12_readStep_162 : decode cX12_readStep 162 = .ok (.invokevirtual 273, 3) := eX12_readStep_152.2.2.2.2.2.2.1
theorem dX12_readStep_165 : decode cX12_readStep 165 = .ok (.goto (-25), 3) := eX12_readStep_152.2.2.2.2.2.2.2.1
theorem eX12_readStep_168 : decode cX12_readStep 168 = .ok (.iload_n 3, 1) ∧ decode cX12_readStep 169 = .ok (.ifCond .eq 21, 3) ∧ decode cX12_readStep 172 = .ok (.aload_n 0, 1) ∧ decode cX12_readStep 173 = .ok (.aload_n 0, 1) ∧ decode cX12_readStep 174 = .ok (.invokevirtual 181, 3) ∧ decode cX12_readStep 177 = .ok (.invokevirtual 216, 3) ∧ decode cX12_readStep 180 = .ok (.aload_n 0, 1) ∧ decode cX12_readStep 181 = .ok (.aload_n 0, 1) ∧ True := dkl_ok (c := cX12_readStep) [(.iload_n 3, 1), (.ifCond .eq 21, 3), (.aload_n 0, 1), (.aload_n 0, 1), (.invokevirtual 181, 3), (.invokevirtual 216, 3), (.aload_n 0, 1), (.aload_n 0, 1)] 168 (by decide +kernel)
theorem dX12_readStep_168 : decode cX12_readStep 168 = .ok (.iload_n 3, 1) := eX12_readStep_168.1
theorem dX12_readStep_169 : decode cX12_readStep 169 = .ok (.ifCond .eq 21, 3) := eX12_readStep_168.2.1
theorem dX12_readStep_172 : decode cX12_readStep 172 = .ok (.aload_n 0, 1) := eX12_readStep_168.2.2.1
theorem dX12_readStep_173 : decode cX12_readStep 173 = .ok (.aload_n 0, 1) := eX12_readStep_168.2.2.2.1
theorem dX12_readStep_174 : decode cX12_readStep 174 = .ok (.invokevirtual 181, 3) := eX12_readStep_168.2.2.2.2.1
theorem dX12_readStep_177 : decode cX12_readStep 177 = .ok (.invokevirtual 216, 3) := eX12_readStep_168.2.2.2.2.2.1
theorem dX12_readStep_180 : decode cX12_readStep 180 = .ok (.aload_n 0, 1) := eX12_readStep_168.2.2.2.2.2.2.1
theorem dX12_readStep_181 : decode cX12_readStep 181 = .ok (.aload_n 0, 1) := eX12_readStep_168.2.2.2.2.2.2.2.1
theorem eX12_readStep_182 : decode cX12_readStep 182 = .ok (.bipush 59, 2) ∧ decode cX12_readStep 184 = .ok (.invokevirtual 243, 3) ∧ decode cX12_readStep 187 = .ok (.invokevirtual 216, 3) ∧ decode cX12_readStep 190 = .ok (.aload_n 0, 1) ∧ decode cX12_readStep 191 = .ok (.getfield 35, 3) ∧ decode cX12_readStep 194 = .ok (.iload 4, 2) ∧ decode cX12_readStep 196 = .ok (.bipush 8, 2) ∧ decode cX12_readStep 198 = .ok (.iadd, 1) ∧ True := dkl_ok (c := cX12_readStep) [(.bipush 59, 2), (.invokevirtual 243, 3), (.invokevirtual 216, 3), (.aload_n 0, 1), (.getfield 35, 3), (.iload 4, 2), (.bipush 8, 2), (.iadd, 1)] 182 (by decide +kernel)
theorem dX12_readStep_182 : decode cX12_readStep 182 = .ok (.bipush 59, 2) := eX12_readStep_182.1
theorem dX12_readStep_184 : decode cX12_readStep 184 = .ok (.invokevirtual 243, 3) := eX12_readStep_182.2.1
theorem dX12_readStep_187 : decode cX12_readStep 187 = .ok (.invokevirtual 216, 3) := eX12_readStep_182.2.2.1
theorem dX12_readStep_190 : decode cX12_readStep 190 = .ok (.aload_n 0, 1) := eX12_readStep_182.2.2.2.1
theorem dX12_readStep_191 : decode cX12_readStep 191 = .ok (.getfield 35, 3) := eX12_readStep_182.2.2.2.2.1
theorem dX12_readStep_194 : decode cX12_readStep 194 = .ok (.iload 4, 2) := eX12_readStep_182.2.2.2.2.2.1
theorem dX12_readStep_196 : decode cX12_readStep 196 = .ok (.bipush 8, 2) := eX12_readStep_182.2.2.2.2.2.2.1
theorem dX12_readStep_198 : decode cX12_readStep 198 = .ok (.iadd, 1) := eX12_readStep_182.2.2.2.2.2.2.2.1
theorem eX12_readStep_199 : decode cX12_readStep 199 = .ok (.aload_n 0, 1) ∧ decode cX12_readStep 200 = .ok (.getfield 267, 3) ∧ decode cX12_readStep 203 = .ok (.iastore, 1) ∧ decode cX12_readStep 204 = .ok (.return_, 1) ∧ True := dkl_ok (c := cX12_readStep) [(.aload_n 0, 1), (.getfield 267, 3), (.iastore, 1), (.return_, 1)] 199 (by decide +kernel)
theorem dX12_readStep_199 : decode cX12_readStep 199 = .ok (.aload_n 0, 1) := eX12_readStep_199.1
theorem dX12_readStep_200 : decode cX12_readStep 200 = .ok (.getfield 267, 3) := eX12_readStep_199.2.1
theorem dX12_readStep_203 : decode cX12_readStep 203 = .ok (.iastore, 1) := eX12_readStep_199.2.2.1
theorem dX12_readStep_204 : decode cX12_readStep 204 = .ok (.return_, 1) := eX12_readStep_199.2.2.2.1
theorem eX12_round_0 : decode cX12_round 0 = .ok (.aload_n 0, 1) ∧ decode cX12_round 1 = .ok (.iconst 0, 1) ∧ decode cX12_round 2 = .ok (.putfield 59, 3) ∧ decode cX12_round 5 = .ok (.aload_n 0, 1) ∧ decode cX12_round 6 = .ok (.iconst 0, 1) ∧ decode cX12_round 7 = .ok (.putfield 62, 3) ∧ decode cX12_round 10 = .ok (.aload_n 0, 1) ∧ decode cX12_round 11 = .ok (.iload_n 1, 1) ∧ True := dkl_ok (c := cX12_round) [(.aload_n 0, 1), (.iconst 0, 1), (.putfield 59, 3), (.aload_n 0, 1), (.iconst 0, 1), (.putfield 62, 3), (.aload_n 0, 1), (.iload_n 1, 1)] 0 (by decide +kernel)
theorem dX12_round_0 : decode cX12_round 0 = .ok (.aload_n 0, 1) := eX12_round_0.1
theorem dX12_round_1 : decode cX12_round 1 = .ok (.iconst 0, 1) := eX12_round_0.2.1
theorem dX12_round_2 : decode cX12_round 2 = .ok (.putfield 59, 3) := eX12_round_0.2.2.1
theorem dX12_round_5 : decode cX12_round 5 = .ok (.aload_n 0, 1) := eX12_round_0.2.2.2.1
theorem dX12_round_6 : decode cX12_round 6 = .ok (.iconst 0, 1) := eX12_round_0.2.2.2.2.1
theorem dX12_round_7 : decode cX12_round 7 = .ok (.putfield 62, 3) := eX12_round_0.2.2.2.2.2.1
theorem dX12_round_10 : decode cX12_round 10 = .ok (.aload_n 0, 1) := eX12_round_0.2.2.2.2.2.2.1
theorem dX12_round_11 : decode cX12_round 11 = .ok (.iload_n 1, 1) := eX12_round_0.2.2.2.2.2.2.2.1
theorem eX12_round_12 : decode cX12_round 12 = .ok (.sipush 300, 3) ∧ decode cX12_round 15 = .ok (.invokevirtual 239, 3) ∧ decode cX12_round 18 = .ok (.ifCond .ne 5, 3) ∧ decode cX12_round 21 = .ok (.iconst (-1), 1) ∧ decode cX12_round 22 = .ok (.ireturn, 1) ∧ decode cX12_round 23 = .ok (.aload_n 0, 1) ∧ decode cX12_round 24 = .ok (.iconst 0, 1) ∧ decode cX12_round 25 = .ok (.putfield 267, 3) ∧ True := dkl_ok (c := cX12_round) [(.sipush 300, 3), (.invokevirtual 239, 3), (.ifCond .ne 5, 3), (.iconst (-1), 1), (.ireturn, 1), (.aload_n 0, 1), (.iconst 0, 1), (.putfield 267, 3)] 12 (by decide +kernel)
theorem dX12_round_12 : decode cX12_round 12 = .ok (.sipush 300, 3) := eX12_round_12.1
theorem dX12_round_15 : decode cX12_round 15 = .ok (.invokevirtual 239, 3) := eX12_round_12.2.1
theorem dX12_round_18 : decode cX12_round 18 = .ok (.ifCond .ne 5, 3) := eX12_round_12.2.2.1
theorem dX12_round_21 : decode cX12_round 21 = .ok (.iconst (-1), 1) := eX12_round_12.2.2.2.1
theorem dX12_round_22 : decode cX12_round 22 = .ok (.ireturn, 1) := eX12_round_12.2.2.2.2.1
theorem dX12_round_23 : decode cX12_round 23 = .ok (.aload_n 0, 1) := eX12_round_12.2.2.2.2.2.1
theorem dX12_round_24 : decode cX12_round 24 = .ok (.iconst 0, 1) := eX12_round_12.2.2.2.2.2.2.1
theorem dX12_round_25 : decode cX12_round 25 = .ok (.putfield 267, 3) := eX12_round_12.2.2.2.2.2.2.2.1
theorem eX12_round_28 : decode cX12_round 28 = .ok (.aload_n 0, 1) ∧ decode cX12_round 29 = .ok (.getfield 187, 3) ∧ decode cX12_round 32 = .ok (.ifCond .ne 18, 3) ∧ decode cX12_round 35 = .ok (.aload_n 0, 1) ∧ decode cX12_round 36 = .ok (.getfield 110, 3) ∧ decode cX12_round 39 = .ok (.ifCond .eq 11, 3) ∧ decode cX12_round 42 = .ok (.aload_n 0, 1) ∧ decode cX12_round 43 = .ok (.iconst 0, 1) ∧ True := dkl_ok (c := cX12_round) [(.aload_n 0, 1), (.getfield 187, 3), (.ifCond .ne 18, 3), (.aload_n 0, 1), (.getfield 110, 3), (.ifCond .eq 11, 3), (.aload_n 0, 1), (.iconst 0, 1)] 28 (by decide +kernel)
theorem dX12_round_28 : decode cX12_round 28 = .ok (.aload_n 0, 1) := eX12_round_28.1
theorem dX12_round_29 : decode cX12_round 29 = .ok (.getfield 187, 3) := eX12_round_28.2.1
theorem dX12_round_32 : decode cX12_round 32 = .ok (.ifCond .ne 18, 3) := eX12_round_28.2.2.1
theorem dX12_round_35 : decode cX12_round 35 = .ok (.aload_n 0, 1) := eX12_round_28.2.2.2.1
theorem dX12_round_36 : decode cX12_round 36 = .ok (.getfield 110, 3) := eX12_round_28.2.2.2.2.1
theorem dX12_round_39 : decode cX12_round 39 = .ok (.ifCond .eq 11, 3) := eX12_round_28.2.2.2.2.2.1
theorem dX12_round_42 : decode cX12_round 42 = .ok (.aload_n 0, 1) := eX12_round_28.2.2.2.2.2.2.1
theorem dX12_round_43 : decode cX12_round 43 = .ok (.iconst 0, 1) := eX12_round_28.2.2.2.2.2.2.2.1
theorem eX12_round_44 : decode cX12_round 44 = .ok (.invokevirtual 273, 3) ∧ decode cX12_round 47 = .ok (.goto (-19), 3) ∧ decode cX12_round 50 = .ok (.aload_n 0, 1) ∧ decode cX12_round 51 = .ok (.invokevirtual 258, 3) ∧ decode cX12_round 54 = .ok (.ifCond .ne 5, 3) ∧ decode cX12_round 57 = .ok (.iconst (-1), 1) ∧ decode cX12_round 58 = .ok (.ireturn, 1) ∧ decode cX12_round 59 = .ok (.aload_n 0, 1) ∧ True := dkl_ok (c := cX12_round) [(.invokevirtual 273, 3), (.goto (-19), 3), (.aload_n 0, 1), (.invokevirtual 258, 3), (.ifCond .ne 5, 3), (.iconst (-1), 1), (.ireturn, 1), (.aload_n 0, 1)] 44 (by decide +kernel)
theorem dX12_round_44 : decode cX12_round 44 = .ok (.invokevirtual 273, 3) := eX12_round_44.1
theorem dX12_round_47 : decode cX12_round 47 = .ok (.goto (-19), 3) := eX12_round_44.2.1
theorem dX12_round_50 : decode cX12_round 50 = .ok (.aload_n 0, 1) := eX12_round_44.2.2.1
theorem dX12_round_51 : decode cX12_round 51 = .ok (.invokevirtual 258, 3) := eX12_round_44.2.2.2.1
theorem dX12_round_54 : decode cX12_round 54 = .ok (.ifCond .ne 5, 3) := eX12_round_44.2.2.2.2.1
theorem dX12_round_57 : decode cX12_round 57 = .ok (.iconst (-1), 1) := eX12_round_44.2.2.2.2.2.1
theorem dX12_round_58 : decode cX12_round 58 = .ok (.ireturn, 1) := eX12_round_44.2.2.2.2.2.2.1
theorem dX12_round_59 : decode cX12_round 59 = .ok (.aload_n 0, 1) := eX12_round_44.2.2.2.2.2.2.2.1
theorem eX12_round_60 : decode cX12_round 60 = .ok (.getfield 35, 3) ∧ decode cX12_round 63 = .ok (.sipush 654, 3) ∧ decode cX12_round 66 = .ok (.iconst 1, 1) ∧ decode cX12_round 67 = .ok (.iastore, 1) ∧ decode cX12_round 68 = .ok (.aload_n 0, 1) ∧ decode cX12_round 69 = .ok (.getfield 35, 3) ∧ decode cX12_round 72 = .ok (.sipush 655, 3) ∧ decode cX12_round 75 = .ok (.aload_n 0, 1) ∧ True := dkl_ok (c := cX12_round) [(.getfield 35, 3), (.sipush 654, 3), (.iconst 1, 1), (.iastore, 1), (.aload_n 0, 1), (.getfield 35, 3), (.sipush 655, 3), (.aload_n 0, 1)] 60 (by decide +kernel)
theorem dX12_round_60 : decode cX12_round 60 = .ok (.getfield 35, 3) := eX12_round_60.1
theorem dX12_round_63 : decode cX12_round 63 = .ok (.sipush 654, 3) := eX12_round_60.2.1
theorem dX12_round_66 : decode cX12_round 66 = .ok (.iconst 1, 1) := eX12_round_60.2.2.1
theorem dX12_round_67 : decode cX12_round 67 = .ok (.iastore, 1) := eX12_round_60.2.2.2.1
theorem dX12_round_68 : decode cX12_round 68 = .ok (.aload_n 0, 1) := eX12_round_60.2.2.2.2.1
theorem dX12_round_69 : decode cX12_round 69 = .ok (.getfield 35, 3) := eX12_round_60.2.2.2.2.2.1
theorem dX12_round_72 : decode cX12_round 72 = .ok (.sipush 655, 3) := eX12_round_60.2.2.2.2.2.2.1
theorem dX12_round_75 : decode cX12_round 75 = .ok (.aload_n 0, 1) := eX12_round_60.2.2.2.2.2.2.2.1
theorem eX12_round_76 : decode cX12_round 76 = .ok (.getfield 267, 3) ∧ decode cX12_round 79 = .ok (.iastore, 1) ∧ decode cX12_round 80 = .ok (.iconst 0, 1) ∧ decode cX12_round 81 = .ok (.istore_n 2, 1) ∧ decode cX12_round 82 = .ok (.iload_n 2, 1) ∧ decode cX12_round 83 = .ok (.bipush 9, 2) ∧ decode cX12_round 85 = .ok (.aload_n 0, 1) ∧ decode cX12_round 86 = .ok (.getfield 267, 3) ∧ True := dkl_ok (c := cX12_round) [(.getfield 267, 3), (.iastore, 1), (.iconst 0, 1), (.istore_n 2, 1), (.iload_n 2, 1), (.bipush 9, 2), (.aload_n 0, 1), (.getfield 267, 3)] 76 (by decide +kernel)
theorem dX12_round_76 : decode cX12_round 76 = .ok (.getfield 267, 3) := eX12_round_76.1
theorem dX12_round_79 : decode cX12_round 79 = .ok (.iastore, 1) := eX12_round_76.2.1
theorem dX12_round_80 : decode cX12_round 80 = .ok (.iconst 0, 1) := eX12_round_76.2.2.1
theorem dX12_round_81 : decode cX12_round 81 = .ok (.istore_n 2, 1) := eX12_round_76.2.2.2.1
theorem dX12_round_82 : decode cX12_round 82 = .ok (.iload_n 2, 1) := eX12_round_76.2.2.2.2.1
theorem dX12_round_83 : decode cX12_round 83 = .ok (.bipush 9, 2) := eX12_round_76.2.2.2.2.2.1
theorem dX12_round_85 : decode cX12_round 85 = .ok (.aload_n 0, 1) := eX12_round_76.2.2.2.2.2.2.1
theorem dX12_round_86 : decode cX12_round 86 = .ok (.getfield 267, 3) := eX12_round_76.2.2.2.2.2.2.2.1
theorem eX12_round_89 : decode cX12_round 89 = .ok (.imul, 1) ∧ decode cX12_round 90 = .ok (.if_icmp .ge 29, 3) ∧ decode cX12_round 93 = .ok (.aload_n 0, 1) ∧ decode cX12_round 94 = .ok (.getfield 35, 3) ∧ decode cX12_round 97 = .ok (.sipush 656, 3) ∧ decode cX12_round 100 = .ok (.iload_n 2, 1) ∧ decode cX12_round 101 = .ok (.iadd, 1) ∧ decode cX12_round 102 = .ok (.aload_n 0, 1) ∧ True := dkl_ok (c := cX12_round) [(.imul, 1), (.if_icmp .ge 29, 3), (.aload_n 0, 1), (.getfield 35, 3), (.sipush 656, 3), (.iload_n 2, 1), (.iadd, 1), (.aload_n 0, 1)] 89 (by decide +kernel)
theorem dX12_round_89 : decode cX12_round 89 = .ok (.imul, 1) := eX12_round_89.1
theorem dX12_round_90 : decode cX12_round 90 = .ok (.if_icmp .ge 29, 3) := eX12_round_89.2.1
theorem dX12_round_93 : decode cX12_round 93 = .ok (.aload_n 0, 1) := eX12_round_89.2.2.1
theorem dX12_round_94 : decode cX12_round 94 = .ok (.getfield 35, 3) := eX12_round_89.2.2.2.1
theorem dX12_round_97 : decode cX12_round 97 = .ok (.sipush 656, 3) := eX12_round_89.2.2.2.2.1
theorem dX12_round_100 : decode cX12_round 100 = .ok (.iload_n 2, 1) := eX12_round_89.2.2.2.2.2.1
theorem dX12_round_101 : decode cX12_round 101 = .ok (.iadd, 1) := eX12_round_89.2.2.2.2.2.2.1
theorem dX12_round_102 : decode cX12_round 102 = .ok (.aload_n 0, 1) := eX12_round_89.2.2.2.2.2.2.2.1
theorem eX12_round_103 : decode cX12_round 103 = .ok (.getfield 35, 3) ∧ decode cX12_round 106 = .ok (.sipush 4376, 3) ∧ decode cX12_round 109 = .ok (.iload_n 2, 1) ∧ decode cX12_round 110 = .ok (.iadd, 1) ∧ decode cX12_round 111 = .ok (.iaload, 1) ∧ decode cX12_round 112 = .ok (.iastore, 1) ∧ decode cX12_round 113 = .ok (.iinc 2 1, 3) ∧ decode cX12_round 116 = .ok (.goto (-34), 3) ∧ True := dkl_ok (c := cX12_round) [(.getfield 35, 3), (.sipush 4376, 3), (.iload_n 2, 1), (.iadd, 1), (.iaload, 1), (.iastore, 1), (.iinc 2 1, 3), (.goto (-34), 3)] 103 (by decide +kernel)
theorem dX12_round_103 : decode cX12_round 103 = .ok (.getfield 35, 3) := eX12_round_103.1
theorem dX12_round_106 : decode cX12_round 106 = .ok (.sipush 4376, 3) := eX12_round_103.2.1
theorem dX12_round_109 : decode cX12_round 109 = .ok (.iload_n 2, 1) := eX12_round_103.2.2.1
theorem dX12_round_110 : decode cX12_round 110 = .ok (.iadd, 1) := eX12_round_103.2.2.2.1
theorem dX12_round_111 : decode cX12_round 111 = .ok (.iaload, 1) := eX12_round_103.2.2.2.2.1
theorem dX12_round_112 : decode cX12_round 112 = .ok (.iastore, 1) := eX12_round_103.2.2.2.2.2.1
theorem dX12_round_113 : decode cX12_round 113 = .ok (.iinc 2 1, 3) := eX12_round_103.2.2.2.2.2.2.1
theorem dX12_round_116 : decode cX12_round 116 = .ok (.goto (-34), 3) := eX12_round_103.2.2.2.2.2.2.2.1
theorem eX12_round_119 : decode cX12_round 119 = .ok (.aload_n 0, 1) ∧ decode cX12_round 120 = .ok (.getfield 267, 3) ∧ decode cX12_round 123 = .ok (.ireturn, 1) ∧ True := dkl_ok (c := cX12_round) [(.aload_n 0, 1), (.getfield 267, 3), (.ireturn, 1)] 119 (by decide +kernel)
theorem dX12_round_119 : decode cX12_round 119 = .ok (.aload_n 0, 1) := eX12_round_119.1
theorem dX12_round_120 : decode cX12_round 120 = .ok (.getfield 267, 3) := eX12_round_119.2.1
theorem dX12_round_123 : decode cX12_round 123 = .ok (.ireturn, 1) := eX12_round_119.2.2.1
theorem eX12_isPlayerAt_0 : decode cX12_isPlayerAt 0 = .ok (.iload_n 1, 1) ∧ decode cX12_isPlayerAt 1 = .ok (.i2l, 1) ∧ decode cX12_isPlayerAt 2 = .ok (.lconst 0, 1) ∧ decode cX12_isPlayerAt 3 = .ok (.aload_n 0, 1) ∧ decode cX12_isPlayerAt 4 = .ok (.getfield 35, 3) ∧ decode cX12_isPlayerAt 7 = .ok (.iconst 2, 1) ∧ decode cX12_isPlayerAt 8 = .ok (.iaload, 1) ∧ decode cX12_isPlayerAt 9 = .ok (.iconst 1, 1) ∧ True := dkl_ok (c := cX12_isPlayerAt) [(.iload_n 1, 1), (.i2l, 1), (.lconst 0, 1), (.aload_n 0, 1), (.getfield 35, 3), (.iconst 2, 1), (.iaload, 1), (.iconst 1, 1)] 0 (by decide +kernel)
theorem dX12_isPlayerAt_0 : decode cX12_isPlayerAt 0 = .ok (.iload_n 1, 1) := eX12_isPlayerAt_0.1
theorem dX12_isPlayerAt_1 : decode cX12_isPlayerAt 1 = .ok (.i2l, 1) := eX12_isPlayerAt_0.2.1
theorem dX12_isPlayerAt_2 : decode cX12_isPlayerAt 2 = .ok (.lconst 0, 1) := eX12_isPlayerAt_0.2.2.1
theorem dX12_isPlayerAt_3 : decode cX12_isPlayerAt 3 = .ok (.aload_n 0, 1) := eX12_isPlayerAt_0.2.2.2.1
theorem dX12_isPlayerAt_4 : decode cX12_isPlayerAt 4 = .ok (.getfield 35, 3) := eX12_isPlayerAt_0.2.2.2.2.1
theorem dX12_isPlayerAt_7 : decode cX12_isPlayerAt 7 = .ok (.iconst 2, 1) := eX12_isPlayerAt_0.2.2.2.2.2.1
theorem dX12_isPlayerAt_8 : decode cX12_isPlayerAt 8 = .ok (.iaload, 1) := eX12_isPlayerAt_0.2.2.2.2.2.2.1
theorem dX12_isPlayerAt_9 : decode cX12_isPlayerAt 9 = .ok (.iconst 1, 1) := eX12_isPlayerAt_0.2.2.2.2.2.2.2.1
theorem eX12_isPlayerAt_10 : decode cX12_isPlayerAt 10 = .ok (.isub, 1) ∧ decode cX12_isPlayerAt 11 = .ok (.i2l, 1) ∧ decode cX12_isPlayerAt 12 = .ok (.invokestatic 94, 3) ∧ decode cX12_isPlayerAt 15 = .ok (.ireturn, 1) ∧ True := dkl_ok (c := cX12_isPlayerAt) [(.isub, 1), (.i2l, 1), (.invokestatic 94, 3), (.ireturn, 1)] 10 (by decide +kernel)
theorem dX12_isPlayerAt_10 : decode cX12_isPlayerAt 10 = .ok (.isub, 1) := eX12_isPlayerAt_10.1
theorem dX12_isPlayerAt_11 : decode cX12_isPlayerAt 11 = .ok (.i2l, 1) := eX12_isPlayerAt_10.2.1
theorem dX12_isPlayerAt_12 : decode cX12_isPlayerAt 12 = .ok (.invokestatic 94, 3) := eX12_isPlayerAt_10.2.2.1
theorem dX12_isPlayerAt_15 : decode cX12_isPlayerAt 15 = .ok (.ireturn, 1) := eX12_isPlayerAt_10.2.2.2.1
theorem eX12_isKindAt_0 : decode cX12_isKindAt 0 = .ok (.iload_n 1, 1) ∧ decode cX12_isKindAt 1 = .ok (.i2l, 1) ∧ decode cX12_isKindAt 2 = .ok (.lconst 0, 1) ∧ decode cX12_isKindAt 3 = .ok (.aload_n 0, 1) ∧ decode cX12_isKindAt 4 = .ok (.getfield 35, 3) ∧ decode cX12_isKindAt 7 = .ok (.iconst 0, 1) ∧ decode cX12_isKindAt 8 = .ok (.iaload, 1) ∧ decode cX12_isKindAt 9 = .ok (.iconst 1, 1) ∧ True := dkl_ok (c := cX12_isKindAt) [(.iload_n 1, 1), (.i2l, 1), (.lconst 0, 1), (.aload_n 0, 1), (.getfield 35, 3), (.iconst 0, 1), (.iaload, 1), (.iconst 1, 1)] 0 (by decide +kernel)
theorem dX12_isKindAt_0 : decode cX12_isKindAt 0 = .ok (.iload_n 1, 1) := eX12_isKindAt_0.1
theorem dX12_isKindAt_1 : decode cX12_isKindAt 1 = .ok (.i2l, 1) := eX12_isKindAt_0.2.1
theorem dX12_isKindAt_2 : decode cX12_isKindAt 2 = .ok (.lconst 0, 1) := eX12_isKindAt_0.2.2.1
theorem dX12_isKindAt_3 : decode cX12_isKindAt 3 = .ok (.aload_n 0, 1) := eX12_isKindAt_0.2.2.2.1
theorem dX12_isKindAt_4 : decode cX12_isKindAt 4 = .ok (.getfield 35, 3) := eX12_isKindAt_0.2.2.2.2.1
theorem dX12_isKindAt_7 : decode cX12_isKindAt 7 = .ok (.iconst 0, 1) := eX12_isKindAt_0.2.2.2.2.2.1
theorem dX12_isKindAt_8 : decode cX12_isKindAt 8 = .ok (.iaload, 1) := eX12_isKindAt_0.2.2.2.2.2.2.1
theorem dX12_isKindAt_9 : decode cX12_isKindAt 9 = .ok (.iconst 1, 1) := eX12_isKindAt_0.2.2.2.2.2.2.2.1
theorem eX12_isKindAt_10 : decode cX12_isKindAt 10 = .ok (.isub, 1) ∧ decode cX12_isKindAt 11 = .ok (.i2l, 1) ∧ decode cX12_isKindAt 12 = .ok (.invokestatic 94, 3) ∧ decode cX12_isKindAt 15 = .ok (.ireturn, 1) ∧ True := dkl_ok (c := cX12_isKindAt) [(.isub, 1), (.i2l, 1), (.invokestatic 94, 3), (.ireturn, 1)] 10 (by decide +kernel)
theorem dX12_isKindAt_10 : decode cX12_isKindAt 10 = .ok (.isub, 1) := eX12_isKindAt_10.1
theorem dX12_isKindAt_11 : decode cX12_isKindAt 11 = .ok (.i2l, 1) := eX12_isKindAt_10.2.1
theorem dX12_isKindAt_12 : decode cX12_isKindAt 12 = .ok (.invokestatic 94, 3) := eX12_isKindAt_10.2.2.1
theorem dX12_isKindAt_15 : decode cX12_isKindAt 15 = .ok (.ireturn, 1) := eX12_isKindAt_10.2.2.2.1
theorem eX12_handOf_0 : decode cX12_handOf 0 = .ok (.aload_n 0, 1) ∧ decode cX12_handOf 1 = .ok (.getfield 35, 3) ∧ decode cX12_handOf 4 = .ok (.bipush 34, 2) ∧ decode cX12_handOf 6 = .ok (.bipush 10, 2) ∧ decode cX12_handOf 8 = .ok (.iload_n 1, 1) ∧ decode cX12_handOf 9 = .ok (.imul, 1) ∧ decode cX12_handOf 10 = .ok (.iadd, 1) ∧ decode cX12_handOf 11 = .ok (.iload_n 2, 1) ∧ True := dkl_ok (c := cX12_handOf) [(.aload_n 0, 1), (.getfield 35, 3), (.bipush 34, 2), (.bipush 10, 2), (.iload_n 1, 1), (.imul, 1), (.iadd, 1), (.iload_n 2, 1)] 0 (by decide +kernel)
theorem dX12_handOf_0 : decode cX12_handOf 0 = .ok (.aload_n 0, 1) := eX12_handOf_0.1
theorem dX12_handOf_1 : decode cX12_handOf 1 = .ok (.getfield 35, 3) := eX12_handOf_0.2.1
theorem dX12_handOf_4 : decode cX12_handOf 4 = .ok (.bipush 34, 2) := eX12_handOf_0.2.2.1
theorem dX12_handOf_6 : decode cX12_handOf 6 = .ok (.bipush 10, 2) := eX12_handOf_0.2.2.2.1
theorem dX12_handOf_8 : decode cX12_handOf 8 = .ok (.iload_n 1, 1) := eX12_handOf_0.2.2.2.2.1
theorem dX12_handOf_9 : decode cX12_handOf 9 = .ok (.imul, 1) := eX12_handOf_0.2.2.2.2.2.1
theorem dX12_handOf_10 : decode cX12_handOf 10 = .ok (.iadd, 1) := eX12_handOf_0.2.2.2.2.2.2.1
theorem dX12_handOf_11 : decode cX12_handOf 11 = .ok (.iload_n 2, 1) := eX12_handOf_0.2.2.2.2.2.2.2.1
theorem eX12_handOf_12 : decode cX12_handOf 12 = .ok (.iadd, 1) ∧ decode cX12_handOf 13 = .ok (.iaload, 1) ∧ decode cX12_handOf 14 = .ok (.ireturn, 1) ∧ True := dkl_ok (c := cX12_handOf) [(.iadd, 1), (.iaload, 1), (.ireturn, 1)] 12 (by decide +kernel)
theorem dX12_handOf_12 : decode cX12_handOf 12 = .ok (.iadd, 1) := eX12_handOf_12.1
theorem dX12_handOf_13 : decode cX12_handOf 13 = .ok (.iaload, 1) := eX12_handOf_12.2.1
theorem dX12_handOf_14 : decode cX12_handOf 14 = .ok (.ireturn, 1) := eX12_handOf_12.2.2.1
theorem eX12_cardsOf_0 : decode cX12_cardsOf 0 = .ok (.iconst 0, 1) ∧ decode cX12_cardsOf 1 = .ok (.istore_n 2, 1) ∧ decode cX12_cardsOf 2 = .ok (.iconst 0, 1) ∧ decode cX12_cardsOf 3 = .ok (.istore_n 3, 1) ∧ decode cX12_cardsOf 4 = .ok (.iload_n 3, 1) ∧ decode cX12_cardsOf 5 = .ok (.bipush 10, 2) ∧ decode cX12_cardsOf 7 = .ok (.if_icmp .ge 18, 3) ∧ decode cX12_cardsOf 10 = .ok (.iload_n 2, 1) ∧ True := dkl_ok (c := cX12_cardsOf) [(.iconst 0, 1), (.istore_n 2, 1), (.iconst 0, 1), (.istore_n 3, 1), (.iload_n 3, 1), (.bipush 10, 2), (.if_icmp .ge 18, 3), (.iload_n 2, 1)] 0 (by decide +kernel)
theorem dX12_cardsOf_0 : decode cX12_cardsOf 0 = .ok (.iconst 0, 1) := eX12_cardsOf_0.1
theorem dX12_cardsOf_1 : decode cX12_cardsOf 1 = .ok (.istore_n 2, 1) := eX12_cardsOf_0.2.1
theorem dX12_cardsOf_2 : decode cX12_cardsOf 2 = .ok (.iconst 0, 1) := eX12_cardsOf_0.2.2.1
theorem dX12_cardsOf_3 : decode cX12_cardsOf 3 = .ok (.istore_n 3, 1) := eX12_cardsOf_0.2.2.2.1
theorem dX12_cardsOf_4 : decode cX12_cardsOf 4 = .ok (.iload_n 3, 1) := eX12_cardsOf_0.2.2.2.2.1
theorem dX12_cardsOf_5 : decode cX12_cardsOf 5 = .ok (.bipush 10, 2) := eX12_cardsOf_0.2.2.2.2.2.1
theorem dX12_cardsOf_7 : decode cX12_cardsOf 7 = .ok (.if_icmp .ge 18, 3) := eX12_cardsOf_0.2.2.2.2.2.2.1
theorem dX12_cardsOf_10 : decode cX12_cardsOf 10 = .ok (.iload_n 2, 1) := eX12_cardsOf_0.2.2.2.2.2.2.2.1
theorem eX12_cardsOf_11 : decode cX12_cardsOf 11 = .ok (.aload_n 0, 1) ∧ decode cX12_cardsOf 12 = .ok (.iload_n 1, 1) ∧ decode cX12_cardsOf 13 = .ok (.iload_n 3, 1) ∧ decode cX12_cardsOf 14 = .ok (.invokevirtual 276, 3) ∧ decode cX12_cardsOf 17 = .ok (.iadd, 1) ∧ decode cX12_cardsOf 18 = .ok (.istore_n 2, 1) ∧ decode cX12_cardsOf 19 = .ok (.iinc 3 1, 3) ∧ decode cX12_cardsOf 22 = .ok (.goto (-18), 3) ∧ True := dkl_ok (c := cX12_cardsOf) [(.aload_n 0, 1), (.iload_n 1, 1), (.iload_n 3, 1), (.invokevirtual 276, 3), (.iadd, 1), (.istore_n 2, 1), (.iinc 3 1, 3), (.goto (-18), 3)] 11 (by decide +kernel)
theorem dX12_cardsOf_11 : decode cX12_cardsOf 11 = .ok (.aload_n 0, 1) := eX12_cardsOf_11.1
theorem dX12_cardsOf_12 : decode cX12_cardsOf 12 = .ok (.iload_n 1, 1) := eX12_cardsOf_11.2.1
theorem dX12_cardsOf_13 : decode cX12_cardsOf 13 = .ok (.iload_n 3, 1) := eX12_cardsOf_11.2.2.1
theorem dX12_cardsOf_14 : decode cX12_cardsOf 14 = .ok (.invokevirtual 276, 3) := eX12_cardsOf_11.2.2.2.1
theorem dX12_cardsOf_17 : decode cX12_cardsOf 17 = .ok (.iadd, 1) := eX12_cardsOf_11.2.2.2.2.1
theorem dX12_cardsOf_18 : decode cX12_cardsOf 18 = .ok (.istore_n 2, 1) := eX12_cardsOf_11.2.2.2.2.2.1
theorem dX12_cardsOf_19 : decode cX12_cardsOf 19 = .ok (.iinc 3 1, 3) := eX12_cardsOf_11.2.2.2.2.2.2.1
theorem dX12_cardsOf_22 : decode cX12_cardsOf 22 = .ok (.goto (-18), 3) := eX12_cardsOf_11.2.2.2.2.2.2.2.1
theorem eX12_cardsOf_25 : decode cX12_cardsOf 25 = .ok (.iload_n 2, 1) ∧ decode cX12_cardsOf 26 = .ok (.ireturn, 1) ∧ True := dkl_ok (c := cX12_cardsOf) [(.iload_n 2, 1), (.ireturn, 1)] 25 (by decide +kernel)
theorem dX12_cardsOf_25 : decode cX12_cardsOf 25 = .ok (.iload_n 2, 1) := eX12_cardsOf_25.1
theorem dX12_cardsOf_26 : decode cX12_cardsOf 26 = .ok (.ireturn, 1) := eX12_cardsOf_25.2.1
theorem eX12_laid_0 : decode cX12_laid 0 = .ok (.bipush 94, 2) ∧ decode cX12_laid 2 = .ok (.bipush 7, 2) ∧ decode cX12_laid 4 = .ok (.iload_n 0, 1) ∧ decode cX12_laid 5 = .ok (.imul, 1) ∧ decode cX12_laid 6 = .ok (.iadd, 1) ∧ decode cX12_laid 7 = .ok (.ireturn, 1) ∧ True := dkl_ok (c := cX12_laid) [(.bipush 94, 2), (.bipush 7, 2), (.iload_n 0, 1), (.imul, 1), (.iadd, 1), (.ireturn, 1)] 0 (by decide +kernel)
theorem dX12_laid_0 : decode cX12_laid 0 = .ok (.bipush 94, 2) := eX12_laid_0.1
theorem dX12_laid_2 : decode cX12_laid 2 = .ok (.bipush 7, 2) := eX12_laid_0.2.1
theorem dX12_laid_4 : decode cX12_laid 4 = .ok (.iload_n 0, 1) := eX12_laid_0.2.2.1
theorem dX12_laid_5 : decode cX12_laid 5 = .ok (.imul, 1) := eX12_laid_0.2.2.2.1
theorem dX12_laid_6 : decode cX12_laid 6 = .ok (.iadd, 1) := eX12_laid_0.2.2.2.2.1
theorem dX12_laid_7 : decode cX12_laid 7 = .ok (.ireturn, 1) := eX12_laid_0.2.2.2.2.2.1
theorem eX12_heapMany_0 : decode cX12_heapMany 0 = .ok (.iconst 0, 1) ∧ decode cX12_heapMany 1 = .ok (.istore_n 1, 1) ∧ decode cX12_heapMany 2 = .ok (.iconst 0, 1) ∧ decode cX12_heapMany 3 = .ok (.istore_n 2, 1) ∧ decode cX12_heapMany 4 = .ok (.iload_n 2, 1) ∧ decode cX12_heapMany 5 = .ok (.aload_n 0, 1) ∧ decode cX12_heapMany 6 = .ok (.getfield 35, 3) ∧ decode cX12_heapMany 9 = .ok (.bipush 9, 2) ∧ True := dkl_ok (c := cX12_heapMany) [(.iconst 0, 1), (.istore_n 1, 1), (.iconst 0, 1), (.istore_n 2, 1), (.iload_n 2, 1), (.aload_n 0, 1), (.getfield 35, 3), (.bipush 9, 2)] 0 (by decide +kernel)
theorem dX12_heapMany_0 : decode cX12_heapMany 0 = .ok (.iconst 0, 1) := eX12_heapMany_0.1
theorem dX12_heapMany_1 : decode cX12_heapMany 1 = .ok (.istore_n 1, 1) := eX12_heapMany_0.2.1
theorem dX12_heapMany_2 : decode cX12_heapMany 2 = .ok (.iconst 0, 1) := eX12_heapMany_0.2.2.1
theorem dX12_heapMany_3 : decode cX12_heapMany 3 = .ok (.istore_n 2, 1) := eX12_heapMany_0.2.2.2.1
theorem dX12_heapMany_4 : decode cX12_heapMany 4 = .ok (.iload_n 2, 1) := eX12_heapMany_0.2.2.2.2.1
theorem dX12_heapMany_5 : decode cX12_heapMany 5 = .ok (.aload_n 0, 1) := eX12_heapMany_0.2.2.2.2.2.1
theorem dX12_heapMany_6 : decode cX12_heapMany 6 = .ok (.getfield 35, 3) := eX12_heapMany_0.2.2.2.2.2.2.1
theorem dX12_heapMany_9 : decode cX12_heapMany 9 = .ok (.bipush 9, 2) := eX12_heapMany_0.2.2.2.2.2.2.2.1
theorem eX12_heapMany_11 : decode cX12_heapMany 11 = .ok (.iaload, 1) ∧ decode cX12_heapMany 12 = .ok (.if_icmp .ge 23, 3) ∧ decode cX12_heapMany 15 = .ok (.iload_n 1, 1) ∧ decode cX12_heapMany 16 = .ok (.aload_n 0, 1) ∧ decode cX12_heapMany 17 = .ok (.getfield 35, 3) ∧ decode cX12_heapMany 20 = .ok (.iload_n 2, 1) ∧ decode cX12_heapMany 21 = .ok (.invokestatic 279, 3) ∧ decode cX12_heapMany 24 = .ok (.iconst 2, 1) ∧ True := dkl_ok (c := cX12_heapMany) [(.iaload, 1), (.if_icmp .ge 23, 3), (.iload_n 1, 1), (.aload_n 0, 1), (.getfield 35, 3), (.iload_n 2, 1), (.invokestatic 279, 3), (.iconst 2, 1)] 11 (by decide +kernel)
theorem dX12_heapMany_11 : decode cX12_heapMany 11 = .ok (.iaload, 1) := eX12_heapMany_11.1
theorem dX12_heapMany_12 : decode cX12_heapMany 12 = .ok (.if_icmp .ge 23, 3) := eX12_heapMany_11.2.1
theorem dX12_heapMany_15 : decode cX12_heapMany 15 = .ok (.iload_n 1, 1) := eX12_heapMany_11.2.2.1
theorem dX12_heapMany_16 : decode cX12_heapMany 16 = .ok (.aload_n 0, 1) := eX12_heapMany_11.2.2.2.1
theorem dX12_heapMany_17 : decode cX12_heapMany 17 = .ok (.getfield 35, 3) := eX12_heapMany_11.2.2.2.2.1
theorem dX12_heapMany_20 : decode cX12_heapMany 20 = .ok (.iload_n 2, 1) := eX12_heapMany_11.2.2.2.2.2.1
theorem dX12_heapMany_21 : decode cX12_heapMany 21 = .ok (.invokestatic 279, 3) := eX12_heapMany_11.2.2.2.2.2.2.1
theorem dX12_heapMany_24 : decode cX12_heapMany 24 = .ok (.iconst 2, 1) := eX12_heapMany_11.2.2.2.2.2.2.2.1
theorem eX12_heapMany_25 : decode cX12_heapMany 25 = .ok (.iadd, 1) ∧ decode cX12_heapMany 26 = .ok (.iaload, 1) ∧ decode cX12_heapMany 27 = .ok (.iadd, 1) ∧ decode cX12_heapMany 28 = .ok (.istore_n 1, 1) ∧ decode cX12_heapMany 29 = .ok (.iinc 2 1, 3) ∧ decode cX12_heapMany 32 = .ok (.goto (-28), 3) ∧ decode cX12_heapMany 35 = .ok (.iload_n 1, 1) ∧ decode cX12_heapMany 36 = .ok (.ireturn, 1) ∧ True := dkl_ok (c := cX12_heapMany) [(.iadd, 1), (.iaload, 1), (.iadd, 1), (.istore_n 1, 1), (.iinc 2 1, 3), (.goto (-28), 3), (.iload_n 1, 1), (.ireturn, 1)] 25 (by decide +kernel)
theorem dX12_heapMany_25 : decode cX12_heapMany 25 = .ok (.iadd, 1) := eX12_heapMany_25.1
theorem dX12_heapMany_26 : decode cX12_heapMany 26 = .ok (.iaload, 1) := eX12_heapMany_25.2.1
theorem dX12_heapMany_27 : decode cX12_heapMany 27 = .ok (.iadd, 1) := eX12_heapMany_25.2.2.1
theorem dX12_heapMany_28 : decode cX12_heapMany 28 = .ok (.istore_n 1, 1) := eX12_heapMany_25.2.2.2.1
theorem dX12_heapMany_29 : decode cX12_heapMany 29 = .ok (.iinc 2 1, 3) := eX12_heapMany_25.2.2.2.2.1
theorem dX12_heapMany_32 : decode cX12_heapMany 32 = .ok (.goto (-28), 3) := eX12_heapMany_25.2.2.2.2.2.1
theorem dX12_heapMany_35 : decode cX12_heapMany 35 = .ok (.iload_n 1, 1) := eX12_heapMany_25.2.2.2.2.2.2.1
theorem dX12_heapMany_36 : decode cX12_heapMany 36 = .ok (.ireturn, 1) := eX12_heapMany_25.2.2.2.2.2.2.2.1
theorem eX12_laidOf_0 : decode cX12_laidOf 0 = .ok (.iconst 0, 1) ∧ decode cX12_laidOf 1 = .ok (.istore_n 3, 1) ∧ decode cX12_laidOf 2 = .ok (.iconst 0, 1) ∧ decode cX12_laidOf 3 = .ok (.istore 4, 2) ∧ decode cX12_laidOf 5 = .ok (.iload 4, 2) ∧ decode cX12_laidOf 7 = .ok (.aload_n 0, 1) ∧ decode cX12_laidOf 8 = .ok (.getfield 35, 3) ∧ decode cX12_laidOf 11 = .ok (.bipush 9, 2) ∧ True := dkl_ok (c := cX12_laidOf) [(.iconst 0, 1), (.istore_n 3, 1), (.iconst 0, 1), (.istore 4, 2), (.iload 4, 2), (.aload_n 0, 1), (.getfield 35, 3), (.bipush 9, 2)] 0 (by decide +kernel)
theorem dX12_laidOf_0 : decode cX12_laidOf 0 = .ok (.iconst 0, 1) := eX12_laidOf_0.1
theorem dX12_laidOf_1 : decode cX12_laidOf 1 = .ok (.istore_n 3, 1) := eX12_laidOf_0.2.1
theorem dX12_laidOf_2 : decode cX12_laidOf 2 = .ok (.iconst 0, 1) := eX12_laidOf_0.2.2.1
theorem dX12_laidOf_3 : decode cX12_laidOf 3 = .ok (.istore 4, 2) := eX12_laidOf_0.2.2.2.1
theorem dX12_laidOf_5 : decode cX12_laidOf 5 = .ok (.iload 4, 2) := eX12_laidOf_0.2.2.2.2.1
theorem dX12_laidOf_7 : decode cX12_laidOf 7 = .ok (.aload_n 0, 1) := eX12_laidOf_0.2.2.2.2.2.1
theorem dX12_laidOf_8 : decode cX12_laidOf 8 = .ok (.getfield 35, 3) := eX12_laidOf_0.2.2.2.2.2.2.1
theorem dX12_laidOf_11 : decode cX12_laidOf 11 = .ok (.bipush 9, 2) := eX12_laidOf_0.2.2.2.2.2.2.2.1
theorem eX12_laidOf_13 : decode cX12_laidOf 13 = .ok (.iaload, 1) ∧ decode cX12_laidOf 14 = .ok (.if_icmp .ge 85, 3) ∧ decode cX12_laidOf 17 = .ok (.iload 4, 2) ∧ decode cX12_laidOf 19 = .ok (.invokestatic 279, 3) ∧ decode cX12_laidOf 22 = .ok (.istore 5, 2) ∧ decode cX12_laidOf 24 = .ok (.iload_n 1, 1) ∧ decode cX12_laidOf 25 = .ok (.ifCond .lt 17, 3) ∧ decode cX12_laidOf 28 = .ok (.aload_n 0, 1) ∧ True := dkl_ok (c := cX12_laidOf) [(.iaload, 1), (.if_icmp .ge 85, 3), (.iload 4, 2), (.invokestatic 279, 3), (.istore 5, 2), (.iload_n 1, 1), (.ifCond .lt 17, 3), (.aload_n 0, 1)] 13 (by decide +kernel)
theorem dX12_laidOf_13 : decode cX12_laidOf 13 = .ok (.iaload, 1) := eX12_laidOf_13.1
theorem dX12_laidOf_14 : decode cX12_laidOf 14 = .ok (.if_icmp .ge 85, 3) := eX12_laidOf_13.2.1
theorem dX12_laidOf_17 : decode cX12_laidOf 17 = .ok (.iload 4, 2) := eX12_laidOf_13.2.2.1
theorem dX12_laidOf_19 : decode cX12_laidOf 19 = .ok (.invokestatic 279, 3) := eX12_laidOf_13.2.2.2.1
theorem dX12_laidOf_22 : decode cX12_laidOf 22 = .ok (.istore 5, 2) := eX12_laidOf_13.2.2.2.2.1
theorem dX12_laidOf_24 : decode cX12_laidOf 24 = .ok (.iload_n 1, 1) := eX12_laidOf_13.2.2.2.2.2.1
theorem dX12_laidOf_25 : decode cX12_laidOf 25 = .ok (.ifCond .lt 17, 3) := eX12_laidOf_13.2.2.2.2.2.2.1
theorem dX12_laidOf_28 : decode cX12_laidOf 28 = .ok (.aload_n 0, 1) := eX12_laidOf_13.2.2.2.2.2.2.2.1
theorem eX12_laidOf_29 : decode cX12_laidOf 29 = .ok (.getfield 35, 3) ∧ decode cX12_laidOf 32 = .ok (.iload 5, 2) ∧ decode cX12_laidOf 34 = .ok (.iaload, 1) ∧ decode cX12_laidOf 35 = .ok (.iload_n 1, 1) ∧ decode cX12_laidOf 36 = .ok (.if_icmp .eq 6, 3) ∧ decode cX12_laidOf 39 = .ok (.goto 54, 3) ∧ decode cX12_laidOf 42 = .ok (.iconst 0, 1) ∧ decode cX12_laidOf 43 = .ok (.istore 6, 2) ∧ True := dkl_ok (c := cX12_laidOf) [(.getfield 35, 3), (.iload 5, 2), (.iaload, 1), (.iload_n 1, 1), (.if_icmp .eq 6, 3), (.goto 54, 3), (.iconst 0, 1), (.istore 6, 2)] 29 (by decide +kernel)
theorem dX12_laidOf_29 : decode cX12_laidOf 29 = .ok (.getfield 35, 3) := eX12_laidOf_29.1
theorem dX12_laidOf_32 : decode cX12_laidOf 32 = .ok (.iload 5, 2) := eX12_laidOf_29.2.1
theorem dX12_laidOf_34 : decode cX12_laidOf 34 = .ok (.iaload, 1) := eX12_laidOf_29.2.2.1
theorem dX12_laidOf_35 : decode cX12_laidOf 35 = .ok (.iload_n 1, 1) := eX12_laidOf_29.2.2.2.1
theorem dX12_laidOf_36 : decode cX12_laidOf 36 = .ok (.if_icmp .eq 6, 3) := eX12_laidOf_29.2.2.2.2.1
theorem dX12_laidOf_39 : decode cX12_laidOf 39 = .ok (.goto 54, 3) := eX12_laidOf_29.2.2.2.2.2.1
theorem dX12_laidOf_42 : decode cX12_laidOf 42 = .ok (.iconst 0, 1) := eX12_laidOf_29.2.2.2.2.2.2.1
theorem dX12_laidOf_43 : decode cX12_laidOf 43 = .ok (.istore 6, 2) := eX12_laidOf_29.2.2.2.2.2.2.2.1
theorem eX12_laidOf_45 : decode cX12_laidOf 45 = .ok (.iload 6, 2) ∧ decode cX12_laidOf 47 = .ok (.aload_n 0, 1) ∧ decode cX12_laidOf 48 = .ok (.getfield 35, 3) ∧ decode cX12_laidOf 51 = .ok (.iload 5, 2) ∧ decode cX12_laidOf 53 = .ok (.iconst 2, 1) ∧ decode cX12_laidOf 54 = .ok (.iadd, 1) ∧ decode cX12_laidOf 55 = .ok (.iaload, 1) ∧ decode cX12_laidOf 56 = .ok (.if_icmp .ge 37, 3) ∧ True := dkl_ok (c := cX12_laidOf) [(.iload 6, 2), (.aload_n 0, 1), (.getfield 35, 3), (.iload 5, 2), (.iconst 2, 1), (.iadd, 1), (.iaload, 1), (.if_icmp .ge 37, 3)] 45 (by decide +kernel)
theorem dX12_laidOf_45 : decode cX12_laidOf 45 = .ok (.iload 6, 2) := eX12_laidOf_45.1
theorem dX12_laidOf_47 : decode cX12_laidOf 47 = .ok (.aload_n 0, 1) := eX12_laidOf_45.2.1
theorem dX12_laidOf_48 : decode cX12_laidOf 48 = .ok (.getfield 35, 3) := eX12_laidOf_45.2.2.1
theorem dX12_laidOf_51 : decode cX12_laidOf 51 = .ok (.iload 5, 2) := eX12_laidOf_45.2.2.2.1
theorem dX12_laidOf_53 : decode cX12_laidOf 53 = .ok (.iconst 2, 1) := eX12_laidOf_45.2.2.2.2.1
theorem dX12_laidOf_54 : decode cX12_laidOf 54 = .ok (.iadd, 1) := eX12_laidOf_45.2.2.2.2.2.1
theorem dX12_laidOf_55 : decode cX12_laidOf 55 = .ok (.iaload, 1) := eX12_laidOf_45.2.2.2.2.2.2.1
theorem dX12_laidOf_56 : decode cX12_laidOf 56 = .ok (.if_icmp .ge 37, 3) := eX12_laidOf_45.2.2.2.2.2.2.2.1
theorem eX12_laidOf_59 : decode cX12_laidOf 59 = .ok (.iload_n 3, 1) ∧ decode cX12_laidOf 60 = .ok (.iload_n 2, 1) ∧ decode cX12_laidOf 61 = .ok (.ifCond .lt 19, 3) ∧ decode cX12_laidOf 64 = .ok (.aload_n 0, 1) ∧ decode cX12_laidOf 65 = .ok (.getfield 35, 3) ∧ decode cX12_laidOf 68 = .ok (.iload 5, 2) ∧ decode cX12_laidOf 70 = .ok (.iconst 3, 1) ∧ decode cX12_laidOf 71 = .ok (.iadd, 1) ∧ True := dkl_ok (c := cX12_laidOf) [(.iload_n 3, 1), (.iload_n 2, 1), (.ifCond .lt 19, 3), (.aload_n 0, 1), (.getfield 35, 3), (.iload 5, 2), (.iconst 3, 1), (.iadd, 1)] 59 (by decide +kernel)
theorem dX12_laidOf_59 : decode cX12_laidOf 59 = .ok (.iload_n 3, 1) := eX12_laidOf_59.1
theorem dX12_laidOf_60 : decode cX12_laidOf 60 = .ok (.iload_n 2, 1) := eX12_laidOf_59.2.1
theorem dX12_laidOf_61 : decode cX12_laidOf 61 = .ok (.ifCond .lt 19, 3) := eX12_laidOf_59.2.2.1
theorem dX12_laidOf_64 : decode cX12_laidOf 64 = .ok (.aload_n 0, 1) := eX12_laidOf_59.2.2.2.1
theorem dX12_laidOf_65 : decode cX12_laidOf 65 = .ok (.getfield 35, 3) := eX12_laidOf_59.2.2.2.2.1
theorem dX12_laidOf_68 : decode cX12_laidOf 68 = .ok (.iload 5, 2) := eX12_laidOf_59.2.2.2.2.2.1
theorem dX12_laidOf_70 : decode cX12_laidOf 70 = .ok (.iconst 3, 1) := eX12_laidOf_59.2.2.2.2.2.2.1
theorem dX12_laidOf_71 : decode cX12_laidOf 71 = .ok (.iadd, 1) := eX12_laidOf_59.2.2.2.2.2.2.2.1
theorem eX12_laidOf_72 : decode cX12_laidOf 72 = .ok (.iload 6, 2) ∧ decode cX12_laidOf 74 = .ok (.iadd, 1) ∧ decode cX12_laidOf 75 = .ok (.iaload, 1) ∧ decode cX12_laidOf 76 = .ok (.iload_n 2, 1) ∧ decode cX12_laidOf 77 = .ok (.if_icmp .ne 7, 3) ∧ decode cX12_laidOf 80 = .ok (.iconst 1, 1) ∧ decode cX12_laidOf 81 = .ok (.goto 4, 3) ∧ decode cX12_laidOf 84 = .ok (.iconst 0, 1) ∧ True := dkl_ok (c := cX12_laidOf) [(.iload 6, 2), (.iadd, 1), (.iaload, 1), (.iload_n 2, 1), (.if_icmp .ne 7, 3), (.iconst 1, 1), (.goto 4, 3), (.iconst 0, 1)] 72 (by decide +kernel)
theorem dX12_laidOf_72 : decode cX12_laidOf 72 = .ok (.iload 6, 2) := eX12_laidOf_72.1
theorem dX12_laidOf_74 : decode cX12_laidOf 74 = .ok (.iadd, 1) := eX12_laidOf_72.2.1
theorem dX12_laidOf_75 : decode cX12_laidOf 75 = .ok (.iaload, 1) := eX12_laidOf_72.2.2.1
theorem dX12_laidOf_76 : decode cX12_laidOf 76 = .ok (.iload_n 2, 1) := eX12_laidOf_72.2.2.2.1
theorem dX12_laidOf_77 : decode cX12_laidOf 77 = .ok (.if_icmp .ne 7, 3) := eX12_laidOf_72.2.2.2.2.1
theorem dX12_laidOf_80 : decode cX12_laidOf 80 = .ok (.iconst 1, 1) := eX12_laidOf_72.2.2.2.2.2.1
theorem dX12_laidOf_81 : decode cX12_laidOf 81 = .ok (.goto 4, 3) := eX12_laidOf_72.2.2.2.2.2.2.1
theorem dX12_laidOf_84 : decode cX12_laidOf 84 = .ok (.iconst 0, 1) := eX12_laidOf_72.2.2.2.2.2.2.2.1
theorem eX12_laidOf_85 : decode cX12_laidOf 85 = .ok (.iadd, 1) ∧ decode cX12_laidOf 86 = .ok (.istore_n 3, 1) ∧ decode cX12_laidOf 87 = .ok (.iinc 6 1, 3) ∧ decode cX12_laidOf 90 = .ok (.goto (-45), 3) ∧ decode cX12_laidOf 93 = .ok (.iinc 4 1, 3) ∧ decode cX12_laidOf 96 = .ok (.goto (-91), 3) ∧ decode cX12_laidOf 99 = .ok (.iload_n 3, 1) ∧ decode cX12_laidOf 100 = .ok (.ireturn, 1) ∧ True := dkl_ok (c := cX12_laidOf) [(.iadd, 1), (.istore_n 3, 1), (.iinc 6 1, 3), (.goto (-45), 3), (.iinc 4 1, 3), (.goto (-91), 3), (.iload_n 3, 1), (.ireturn, 1)] 85 (by decide +kernel)
theorem dX12_laidOf_85 : decode cX12_laidOf 85 = .ok (.iadd, 1) := eX12_laidOf_85.1
theorem dX12_laidOf_86 : decode cX12_laidOf 86 = .ok (.istore_n 3, 1) := eX12_laidOf_85.2.1
theorem dX12_laidOf_87 : decode cX12_laidOf 87 = .ok (.iinc 6 1, 3) := eX12_laidOf_85.2.2.1
theorem dX12_laidOf_90 : decode cX12_laidOf 90 = .ok (.goto (-45), 3) := eX12_laidOf_85.2.2.2.1
theorem dX12_laidOf_93 : decode cX12_laidOf 93 = .ok (.iinc 4 1, 3) := eX12_laidOf_85.2.2.2.2.1
theorem dX12_laidOf_96 : decode cX12_laidOf 96 = .ok (.goto (-91), 3) := eX12_laidOf_85.2.2.2.2.2.1
theorem dX12_laidOf_99 : decode cX12_laidOf 99 = .ok (.iload_n 3, 1) := eX12_laidOf_85.2.2.2.2.2.2.1
theorem dX12_laidOf_100 : decode cX12_laidOf 100 = .ok (.ireturn, 1) := eX12_laidOf_85.2.2.2.2.2.2.2.1
theorem eX12_many_0 : decode cX12_many 0 = .ok (.aload_n 0, 1) ∧ decode cX12_many 1 = .ok (.iconst 0, 1) ∧ decode cX12_many 2 = .ok (.putfield 59, 3) ∧ decode cX12_many 5 = .ok (.aload_n 0, 1) ∧ decode cX12_many 6 = .ok (.iconst 0, 1) ∧ decode cX12_many 7 = .ok (.putfield 62, 3) ∧ decode cX12_many 10 = .ok (.iload_n 1, 1) ∧ decode cX12_many 11 = .ok (.i2l, 1) ∧ True := dkl_ok (c := cX12_many) [(.aload_n 0, 1), (.iconst 0, 1), (.putfield 59, 3), (.aload_n 0, 1), (.iconst 0, 1), (.putfield 62, 3), (.iload_n 1, 1), (.i2l, 1)] 0 (by decide +kernel)
theorem dX12_many_0 : decode cX12_many 0 = .ok (.aload_n 0, 1) := eX12_many_0.1
theorem dX12_many_1 : decode cX12_many 1 = .ok (.iconst 0, 1) := eX12_many_0.2.1
theorem dX12_many_2 : decode cX12_many 2 = .ok (.putfield 59, 3) := eX12_many_0.2.2.1
theorem dX12_many_5 : decode cX12_many 5 = .ok (.aload_n 0, 1) := eX12_many_0.2.2.2.1
theorem dX12_many_6 : decode cX12_many 6 = .ok (.iconst 0, 1) := eX12_many_0.2.2.2.2.1
theorem dX12_many_7 : decode cX12_many 7 = .ok (.putfield 62, 3) := eX12_many_0.2.2.2.2.2.1
theorem dX12_many_10 : decode cX12_many 10 = .ok (.iload_n 1, 1) := eX12_many_0.2.2.2.2.2.2.1
theorem dX12_many_11 : decode cX12_many 11 = .ok (.i2l, 1) := eX12_many_0.2.2.2.2.2.2.2.1
theorem eX12_many_12 : decode cX12_many 12 = .ok (.lconst 0, 1) ∧ decode cX12_many 13 = .ok (.ldc2_w 282, 3) ∧ decode cX12_many 16 = .ok (.invokestatic 94, 3) ∧ decode cX12_many 19 = .ok (.ifCond .ne 9, 3) ∧ decode cX12_many 22 = .ok (.aload_n 0, 1) ∧ decode cX12_many 23 = .ok (.iconst 5, 1) ∧ decode cX12_many 24 = .ok (.invokevirtual 284, 3) ∧ decode cX12_many 27 = .ok (.ireturn, 1) ∧ True := dkl_ok (c := cX12_many) [(.lconst 0, 1), (.ldc2_w 282, 3), (.invokestatic 94, 3), (.ifCond .ne 9, 3), (.aload_n 0, 1), (.iconst 5, 1), (.invokevirtual 284, 3), (.ireturn, 1)] 12 (by decide +kernel)
theorem dX12_many_12 : decode cX12_many 12 = .ok (.lconst 0, 1) := eX12_many_12.1
theorem dX12_many_13 : decode cX12_many 13 = .ok (.ldc2_w 282, 3) := eX12_many_12.2.1
theorem dX12_many_16 : decode cX12_many 16 = .ok (.invokestatic 94, 3) := eX12_many_12.2.2.1
theorem dX12_many_19 : decode cX12_many 19 = .ok (.ifCond .ne 9, 3) := eX12_many_12.2.2.2.1
theorem dX12_many_22 : decode cX12_many 22 = .ok (.aload_n 0, 1) := eX12_many_12.2.2.2.2.1
theorem dX12_many_23 : decode cX12_many 23 = .ok (.iconst 5, 1) := eX12_many_12.2.2.2.2.2.1
theorem dX12_many_24 : decode cX12_many 24 = .ok (.invokevirtual 284, 3) := eX12_many_12.2.2.2.2.2.2.1
theorem dX12_many_27 : decode cX12_many 27 = .ok (.ireturn, 1) := eX12_many_12.2.2.2.2.2.2.2.1
theorem eX12_many_28 : decode cX12_many 28 = .ok (.iload_n 1, 1) ∧ True := dkl_ok (c := cX12_many) [(.iload_n 1, 1)] 28 (by decide +kernel)
theorem dX12_many_28 : decode cX12_many 28 = .ok (.iload_n 1, 1) := eX12_many_28.1
theorem dX12_many_29 : decode cX12_many 29 = .ok (.tableswitch 110 6 10 #[35, 62, 67, 75, 102], 35) := d_of (by decide +kernel)
theorem eX12_many_64 : decode cX12_many 64 = .ok (.aload_n 0, 1) ∧ decode cX12_many 65 = .ok (.getfield 35, 3) ∧ decode cX12_many 68 = .ok (.bipush 6, 2) ∧ decode cX12_many 70 = .ok (.iaload, 1) ∧ decode cX12_many 71 = .ok (.ifCond .ge 12, 3) ∧ decode cX12_many 74 = .ok (.aload_n 0, 1) ∧ decode cX12_many 75 = .ok (.bipush 8, 2) ∧ decode cX12_many 77 = .ok (.invokevirtual 284, 3) ∧ True := dkl_ok (c := cX12_many) [(.aload_n 0, 1), (.getfield 35, 3), (.bipush 6, 2), (.iaload, 1), (.ifCond .ge 12, 3), (.aload_n 0, 1), (.bipush 8, 2), (.invokevirtual 284, 3)] 64 (by decide +kernel)
theorem dX12_many_64 : decode cX12_many 64 = .ok (.aload_n 0, 1) := eX12_many_64.1
theorem dX12_many_65 : decode cX12_many 65 = .ok (.getfield 35, 3) := eX12_many_64.2.1
theorem dX12_many_68 : decode cX12_many 68 = .ok (.bipush 6, 2) := eX12_many_64.2.2.1
theorem dX12_many_70 : decode cX12_many 70 = .ok (.iaload, 1) := eX12_many_64.2.2.2.1
theorem dX12_many_71 : decode cX12_many 71 = .ok (.ifCond .ge 12, 3) := eX12_many_64.2.2.2.2.1
theorem dX12_many_74 : decode cX12_many 74 = .ok (.aload_n 0, 1) := eX12_many_64.2.2.2.2.2.1
theorem dX12_many_75 : decode cX12_many 75 = .ok (.bipush 8, 2) := eX12_many_64.2.2.2.2.2.2.1
theorem dX12_many_77 : decode cX12_many 77 = .ok (.invokevirtual 284, 3) := eX12_many_64.2.2.2.2.2.2.2.1
theorem eX12_many_80 : decode cX12_many 80 = .ok (.goto 10, 3) ∧ decode cX12_many 83 = .ok (.aload_n 0, 1) ∧ decode cX12_many 84 = .ok (.getfield 35, 3) ∧ decode cX12_many 87 = .ok (.bipush 6, 2) ∧ decode cX12_many 89 = .ok (.iaload, 1) ∧ decode cX12_many 90 = .ok (.ireturn, 1) ∧ decode cX12_many 91 = .ok (.aload_n 0, 1) ∧ decode cX12_many 92 = .ok (.invokevirtual 287, 3) ∧ True := dkl_ok (c := cX12_many) [(.goto 10, 3), (.aload_n 0, 1), (.getfield 35, 3), (.bipush 6, 2), (.iaload, 1), (.ireturn, 1), (.aload_n 0, 1), (.invokevirtual 287, 3)] 80 (by decide +kernel)
theorem dX12_many_80 : decode cX12_many 80 = .ok (.goto 10, 3) := eX12_many_80.1
theorem dX12_many_83 : decode cX12_many 83 = .ok (.aload_n 0, 1) := eX12_many_80.2.1
theorem dX12_many_84 : decode cX12_many 84 = .ok (.getfield 35, 3) := eX12_many_80.2.2.1
theorem dX12_many_87 : decode cX12_many 87 = .ok (.bipush 6, 2) := eX12_many_80.2.2.2.1
theorem dX12_many_89 : decode cX12_many 89 = .ok (.iaload, 1) := eX12_many_80.2.2.2.2.1
theorem dX12_many_90 : decode cX12_many 90 = .ok (.ireturn, 1) := eX12_many_80.2.2.2.2.2.1
theorem dX12_many_91 : decode cX12_many 91 = .ok (.aload_n 0, 1) := eX12_many_80.2.2.2.2.2.2.1
theorem dX12_many_92 : decode cX12_many 92 = .ok (.invokevirtual 287, 3) := eX12_many_80.2.2.2.2.2.2.2.1
theorem eX12_many_95 : decode cX12_many 95 = .ok (.ireturn, 1) ∧ decode cX12_many 96 = .ok (.aload_n 0, 1) ∧ decode cX12_many 97 = .ok (.getfield 35, 3) ∧ decode cX12_many 100 = .ok (.bipush 7, 2) ∧ decode cX12_many 102 = .ok (.iaload, 1) ∧ decode cX12_many 103 = .ok (.ireturn, 1) ∧ decode cX12_many 104 = .ok (.aload_n 0, 1) ∧ decode cX12_many 105 = .ok (.getfield 35, 3) ∧ True := dkl_ok (c := cX12_many) [(.ireturn, 1), (.aload_n 0, 1), (.getfield 35, 3), (.bipush 7, 2), (.iaload, 1), (.ireturn, 1), (.aload_n 0, 1), (.getfield 35, 3)] 95 (by decide +kernel)
theorem dX12_many_95 : decode cX12_many 95 = .ok (.ireturn, 1) := eX12_many_95.1
theorem dX12_many_96 : decode cX12_many 96 = .ok (.aload_n 0, 1) := eX12_many_95.2.1
theorem dX12_many_97 : decode cX12_many 97 = .ok (.getfield 35, 3) := eX12_many_95.2.2.1
theorem dX12_many_100 : decode cX12_many 100 = .ok (.bipush 7, 2) := eX12_many_95.2.2.2.1
theorem dX12_many_102 : decode cX12_many 102 = .ok (.iaload, 1) := eX12_many_95.2.2.2.2.1
theorem dX12_many_103 : decode cX12_many 103 = .ok (.ireturn, 1) := eX12_many_95.2.2.2.2.2.1
theorem dX12_many_104 : decode cX12_many 104 = .ok (.aload_n 0, 1) := eX12_many_95.2.2.2.2.2.2.1
theorem dX12_many_105 : decode cX12_many 105 = .ok (.getfield 35, 3) := eX12_many_95.2.2.2.2.2.2.2.1
theorem eX12_many_108 : decode cX12_many 108 = .ok (.bipush 8, 2) ∧ decode cX12_many 110 = .ok (.iaload, 1) ∧ decode cX12_many 111 = .ok (.ifCond .ge 12, 3) ∧ decode cX12_many 114 = .ok (.aload_n 0, 1) ∧ decode cX12_many 115 = .ok (.bipush 8, 2) ∧ decode cX12_many 117 = .ok (.invokevirtual 284, 3) ∧ decode cX12_many 120 = .ok (.goto 10, 3) ∧ decode cX12_many 123 = .ok (.aload_n 0, 1) ∧ True := dkl_ok (c := cX12_many) [(.bipush 8, 2), (.iaload, 1), (.ifCond .ge 12, 3), (.aload_n 0, 1), (.bipush 8, 2), (.invokevirtual 284, 3), (.goto 10, 3), (.aload_n 0, 1)] 108 (by decide +kernel)
theorem dX12_many_108 : decode cX12_many 108 = .ok (.bipush 8, 2) := eX12_many_108.1
theorem dX12_many_110 : decode cX12_many 110 = .ok (.iaload, 1) := eX12_many_108.2.1
theorem dX12_many_111 : decode cX12_many 111 = .ok (.ifCond .ge 12, 3) := eX12_many_108.2.2.1
theorem dX12_many_114 : decode cX12_many 114 = .ok (.aload_n 0, 1) := eX12_many_108.2.2.2.1
theorem dX12_many_115 : decode cX12_many 115 = .ok (.bipush 8, 2) := eX12_many_108.2.2.2.2.1
theorem dX12_many_117 : decode cX12_many 117 = .ok (.invokevirtual 284, 3) := eX12_many_108.2.2.2.2.2.1
theorem dX12_many_120 : decode cX12_many 120 = .ok (.goto 10, 3) := eX12_many_108.2.2.2.2.2.2.1
theorem dX12_many_123 : decode cX12_many 123 = .ok (.aload_n 0, 1) := eX12_many_108.2.2.2.2.2.2.2.1
theorem eX12_many_124 : decode cX12_many 124 = .ok (.getfield 35, 3) ∧ decode cX12_many 127 = .ok (.bipush 8, 2) ∧ decode cX12_many 129 = .ok (.iaload, 1) ∧ decode cX12_many 130 = .ok (.ireturn, 1) ∧ decode cX12_many 131 = .ok (.aload_n 0, 1) ∧ decode cX12_many 132 = .ok (.getfield 35, 3) ∧ decode cX12_many 135 = .ok (.bipush 9, 2) ∧ decode cX12_many 137 = .ok (.iaload, 1) ∧ True := dkl_ok (c := cX12_many) [(.getfield 35, 3), (.bipush 8, 2), (.iaload, 1), (.ireturn, 1), (.aload_n 0, 1), (.getfield 35, 3), (.bipush 9, 2), (.iaload, 1)] 124 (by decide +kernel)
theorem dX12_many_124 : decode cX12_many 124 = .ok (.getfield 35, 3) := eX12_many_124.1
theorem dX12_many_127 : decode cX12_many 127 = .ok (.bipush 8, 2) := eX12_many_124.2.1
theorem dX12_many_129 : decode cX12_many 129 = .ok (.iaload, 1) := eX12_many_124.2.2.1
theorem dX12_many_130 : decode cX12_many 130 = .ok (.ireturn, 1) := eX12_many_124.2.2.2.1
theorem dX12_many_131 : decode cX12_many 131 = .ok (.aload_n 0, 1) := eX12_many_124.2.2.2.2.1
theorem dX12_many_132 : decode cX12_many 132 = .ok (.getfield 35, 3) := eX12_many_124.2.2.2.2.2.1
theorem dX12_many_135 : decode cX12_many 135 = .ok (.bipush 9, 2) := eX12_many_124.2.2.2.2.2.2.1
theorem dX12_many_137 : decode cX12_many 137 = .ok (.iaload, 1) := eX12_many_124.2.2.2.2.2.2.2.1
theorem eX12_many_138 : decode cX12_many 138 = .ok (.ireturn, 1) ∧ decode cX12_many 139 = .ok (.aload_n 0, 1) ∧ decode cX12_many 140 = .ok (.getfield 35, 3) ∧ decode cX12_many 143 = .ok (.iload_n 1, 1) ∧ decode cX12_many 144 = .ok (.iaload, 1) ∧ decode cX12_many 145 = .ok (.ireturn, 1) ∧ True := dkl_ok (c := cX12_many) [(.ireturn, 1), (.aload_n 0, 1), (.getfield 35, 3), (.iload_n 1, 1), (.iaload, 1), (.ireturn, 1)] 138 (by decide +kernel)
theorem dX12_many_138 : decode cX12_many 138 = .ok (.ireturn, 1) := eX12_many_138.1
theorem dX12_many_139 : decode cX12_many 139 = .ok (.aload_n 0, 1) := eX12_many_138.2.1
theorem dX12_many_140 : decode cX12_many 140 = .ok (.getfield 35, 3) := eX12_many_138.2.2.1
theorem dX12_many_143 : decode cX12_many 143 = .ok (.iload_n 1, 1) := eX12_many_138.2.2.2.1
theorem dX12_many_144 : decode cX12_many 144 = .ok (.iaload, 1) := eX12_many_138.2.2.2.2.1
theorem dX12_many_145 : decode cX12_many 145 = .ok (.ireturn, 1) := eX12_many_138.2.2.2.2.2.1
theorem eX12_player_0 : decode cX12_player 0 = .ok (.aload_n 0, 1) ∧ decode cX12_player 1 = .ok (.iconst 0, 1) ∧ decode cX12_player 2 = .ok (.putfield 59, 3) ∧ decode cX12_player 5 = .ok (.aload_n 0, 1) ∧ decode cX12_player 6 = .ok (.iconst 0, 1) ∧ decode cX12_player 7 = .ok (.putfield 62, 3) ∧ decode cX12_player 10 = .ok (.aload_n 0, 1) ∧ decode cX12_player 11 = .ok (.iload_n 1, 1) ∧ True := dkl_ok (c := cX12_player) [(.aload_n 0, 1), (.iconst 0, 1), (.putfield 59, 3), (.aload_n 0, 1), (.iconst 0, 1), (.putfield 62, 3), (.aload_n 0, 1), (.iload_n 1, 1)] 0 (by decide +kernel)
theorem dX12_player_0 : decode cX12_player 0 = .ok (.aload_n 0, 1) := eX12_player_0.1
theorem dX12_player_1 : decode cX12_player 1 = .ok (.iconst 0, 1) := eX12_player_0.2.1
theorem dX12_player_2 : decode cX12_player 2 = .ok (.putfield 59, 3) := eX12_player_0.2.2.1
theorem dX12_player_5 : decode cX12_player 5 = .ok (.aload_n 0, 1) := eX12_player_0.2.2.2.1
theorem dX12_player_6 : decode cX12_player 6 = .ok (.iconst 0, 1) := eX12_player_0.2.2.2.2.1
theorem dX12_player_7 : decode cX12_player 7 = .ok (.putfield 62, 3) := eX12_player_0.2.2.2.2.2.1
theorem dX12_player_10 : decode cX12_player 10 = .ok (.aload_n 0, 1) := eX12_player_0.2.2.2.2.2.2.1
theorem dX12_player_11 : decode cX12_player 11 = .ok (.iload_n 1, 1) := eX12_player_0.2.2.2.2.2.2.2.1
theorem eX12_player_12 : decode cX12_player 12 = .ok (.invokevirtual 290, 3) ∧ decode cX12_player 15 = .ok (.ifCond .ne 9, 3) ∧ decode cX12_player 18 = .ok (.aload_n 0, 1) ∧ decode cX12_player 19 = .ok (.iconst 2, 1) ∧ decode cX12_player 20 = .ok (.invokevirtual 284, 3) ∧ decode cX12_player 23 = .ok (.ireturn, 1) ∧ decode cX12_player 24 = .ok (.iload_n 2, 1) ∧ True := dkl_ok (c := cX12_player) [(.invokevirtual 290, 3), (.ifCond .ne 9, 3), (.aload_n 0, 1), (.iconst 2, 1), (.invokevirtual 284, 3), (.ireturn, 1), (.iload_n 2, 1)] 12 (by decide +kernel)
theorem dX12_player_12 : decode cX12_player 12 = .ok (.invokevirtual 290, 3) := eX12_player_12.1
theorem dX12_player_15 : decode cX12_player 15 = .ok (.ifCond .ne 9, 3) := eX12_player_12.2.1
theorem dX12_player_18 : decode cX12_player 18 = .ok (.aload_n 0, 1) := eX12_player_12.2.2.1
theorem dX12_player_19 : decode cX12_player 19 = .ok (.iconst 2, 1) := eX12_player_12.2.2.2.1
theorem dX12_player_20 : decode cX12_player 20 = .ok (.invokevirtual 284, 3) := eX12_player_12.2.2.2.2.1
theorem dX12_player_23 : decode cX12_player 23 = .ok (.ireturn, 1) := eX12_player_12.2.2.2.2.2.1
theorem dX12_player_24 : decode cX12_player 24 = .ok (.iload_n 2, 1) := eX12_player_12.2.2.2.2.2.2.1
theorem dX12_player_25 : decode cX12_player 25 = .ok (.tableswitch 92 0 5 #[39, 49, 59, 65, 75, 85], 39) := d_of (by decide +kernel)
theorem eX12_player_64 : decode cX12_player 64 = .ok (.aload_n 0, 1) ∧ decode cX12_player 65 = .ok (.getfield 35, 3) ∧ decode cX12_player 68 = .ok (.bipush 10, 2) ∧ decode cX12_player 70 = .ok (.iload_n 1, 1) ∧ decode cX12_player 71 = .ok (.iadd, 1) ∧ decode cX12_player 72 = .ok (.iaload, 1) ∧ decode cX12_player 73 = .ok (.ireturn, 1) ∧ decode cX12_player 74 = .ok (.aload_n 0, 1) ∧ True := dkl_ok (c := cX12_player) [(.aload_n 0, 1), (.getfield 35, 3), (.bipush 10, 2), (.iload_n 1, 1), (.iadd, 1), (.iaload, 1), (.ireturn, 1), (.aload_n 0, 1)] 64 (by decide +kernel)
theorem dX12_player_64 : decode cX12_player 64 = .ok (.aload_n 0, 1) := eX12_player_64.1
theorem dX12_player_65 : decode cX12_player 65 = .ok (.getfield 35, 3) := eX12_player_64.2.1
theorem dX12_player_68 : decode cX12_player 68 = .ok (.bipush 10, 2) := eX12_player_64.2.2.1
theorem dX12_player_70 : decode cX12_player 70 = .ok (.iload_n 1, 1) := eX12_player_64.2.2.2.1
theorem dX12_player_71 : decode cX12_player 71 = .ok (.iadd, 1) := eX12_player_64.2.2.2.2.1
theorem dX12_player_72 : decode cX12_player 72 = .ok (.iaload, 1) := eX12_player_64.2.2.2.2.2.1
theorem dX12_player_73 : decode cX12_player 73 = .ok (.ireturn, 1) := eX12_player_64.2.2.2.2.2.2.1
theorem dX12_player_74 : decode cX12_player 74 = .ok (.aload_n 0, 1) := eX12_player_64.2.2.2.2.2.2.2.1
theorem eX12_player_75 : decode cX12_player 75 = .ok (.getfield 35, 3) ∧ decode cX12_player 78 = .ok (.bipush 16, 2) ∧ decode cX12_player 80 = .ok (.iload_n 1, 1) ∧ decode cX12_player 81 = .ok (.iadd, 1) ∧ decode cX12_player 82 = .ok (.iaload, 1) ∧ decode cX12_player 83 = .ok (.ireturn, 1) ∧ decode cX12_player 84 = .ok (.aload_n 0, 1) ∧ decode cX12_player 85 = .ok (.iload_n 1, 1) ∧ True := dkl_ok (c := cX12_player) [(.getfield 35, 3), (.bipush 16, 2), (.iload_n 1, 1), (.iadd, 1), (.iaload, 1), (.ireturn, 1), (.aload_n 0, 1), (.iload_n 1, 1)] 75 (by decide +kernel)
theorem dX12_player_75 : decode cX12_player 75 = .ok (.getfield 35, 3) := eX12_player_75.1
theorem dX12_player_78 : decode cX12_player 78 = .ok (.bipush 16, 2) := eX12_player_75.2.1
theorem dX12_player_80 : decode cX12_player 80 = .ok (.iload_n 1, 1) := eX12_player_75.2.2.1
theorem dX12_player_81 : decode cX12_player 81 = .ok (.iadd, 1) := eX12_player_75.2.2.2.1
theorem dX12_player_82 : decode cX12_player 82 = .ok (.iaload, 1) := eX12_player_75.2.2.2.2.1
theorem dX12_player_83 : decode cX12_player 83 = .ok (.ireturn, 1) := eX12_player_75.2.2.2.2.2.1
theorem dX12_player_84 : decode cX12_player 84 = .ok (.aload_n 0, 1) := eX12_player_75.2.2.2.2.2.2.1
theorem dX12_player_85 : decode cX12_player 85 = .ok (.iload_n 1, 1) := eX12_player_75.2.2.2.2.2.2.2.1
theorem eX12_player_86 : decode cX12_player 86 = .ok (.invokevirtual 293, 3) ∧ decode cX12_player 89 = .ok (.ireturn, 1) ∧ decode cX12_player 90 = .ok (.aload_n 0, 1) ∧ decode cX12_player 91 = .ok (.getfield 35, 3) ∧ decode cX12_player 94 = .ok (.bipush 22, 2) ∧ decode cX12_player 96 = .ok (.iload_n 1, 1) ∧ decode cX12_player 97 = .ok (.iadd, 1) ∧ decode cX12_player 98 = .ok (.iaload, 1) ∧ True := dkl_ok (c := cX12_player) [(.invokevirtual 293, 3), (.ireturn, 1), (.aload_n 0, 1), (.getfield 35, 3), (.bipush 22, 2), (.iload_n 1, 1), (.iadd, 1), (.iaload, 1)] 86 (by decide +kernel)
theorem dX12_player_86 : decode cX12_player 86 = .ok (.invokevirtual 293, 3) := eX12_player_86.1
theorem dX12_player_89 : decode cX12_player 89 = .ok (.ireturn, 1) := eX12_player_86.2.1
theorem dX12_player_90 : decode cX12_player 90 = .ok (.aload_n 0, 1) := eX12_player_86.2.2.1
theorem dX12_player_91 : decode cX12_player 91 = .ok (.getfield 35, 3) := eX12_player_86.2.2.2.1
theorem dX12_player_94 : decode cX12_player 94 = .ok (.bipush 22, 2) := eX12_player_86.2.2.2.2.1
theorem dX12_player_96 : decode cX12_player 96 = .ok (.iload_n 1, 1) := eX12_player_86.2.2.2.2.2.1
theorem dX12_player_97 : decode cX12_player 97 = .ok (.iadd, 1) := eX12_player_86.2.2.2.2.2.2.1
theorem dX12_player_98 : decode cX12_player 98 = .ok (.iaload, 1) := eX12_player_86.2.2.2.2.2.2.2.1
theorem eX12_player_99 : decode cX12_player 99 = .ok (.ireturn, 1) ∧ decode cX12_player 100 = .ok (.aload_n 0, 1) ∧ decode cX12_player 101 = .ok (.getfield 35, 3) ∧ decode cX12_player 104 = .ok (.bipush 28, 2) ∧ decode cX12_player 106 = .ok (.iload_n 1, 1) ∧ decode cX12_player 107 = .ok (.iadd, 1) ∧ decode cX12_player 108 = .ok (.iaload, 1) ∧ decode cX12_player 109 = .ok (.ireturn, 1) ∧ True := dkl_ok (c := cX12_player) [(.ireturn, 1), (.aload_n 0, 1), (.getfield 35, 3), (.bipush 28, 2), (.iload_n 1, 1), (.iadd, 1), (.iaload, 1), (.ireturn, 1)] 99 (by decide +kernel)
theorem dX12_player_99 : decode cX12_player 99 = .ok (.ireturn, 1) := eX12_player_99.1
theorem dX12_player_100 : decode cX12_player 100 = .ok (.aload_n 0, 1) := eX12_player_99.2.1
theorem dX12_player_101 : decode cX12_player 101 = .ok (.getfield 35, 3) := eX12_player_99.2.2.1
theorem dX12_player_104 : decode cX12_player 104 = .ok (.bipush 28, 2) := eX12_player_99.2.2.2.1
theorem dX12_player_106 : decode cX12_player 106 = .ok (.iload_n 1, 1) := eX12_player_99.2.2.2.2.1
theorem dX12_player_107 : decode cX12_player 107 = .ok (.iadd, 1) := eX12_player_99.2.2.2.2.2.1
theorem dX12_player_108 : decode cX12_player 108 = .ok (.iaload, 1) := eX12_player_99.2.2.2.2.2.2.1
theorem dX12_player_109 : decode cX12_player 109 = .ok (.ireturn, 1) := eX12_player_99.2.2.2.2.2.2.2.1
theorem eX12_player_110 : decode cX12_player 110 = .ok (.aload_n 0, 1) ∧ decode cX12_player 111 = .ok (.iload_n 1, 1) ∧ decode cX12_player 112 = .ok (.iconst (-1), 1) ∧ decode cX12_player 113 = .ok (.invokevirtual 296, 3) ∧ decode cX12_player 116 = .ok (.ireturn, 1) ∧ decode cX12_player 117 = .ok (.aload_n 0, 1) ∧ decode cX12_player 118 = .ok (.iconst 5, 1) ∧ decode cX12_player 119 = .ok (.invokevirtual 284, 3) ∧ True := dkl_ok (c := cX12_player) [(.aload_n 0, 1), (.iload_n 1, 1), (.iconst (-1), 1), (.invokevirtual 296, 3), (.ireturn, 1), (.aload_n 0, 1), (.iconst 5, 1), (.invokevirtual 284, 3)] 110 (by decide +kernel)
theorem dX12_player_110 : decode cX12_player 110 = .ok (.aload_n 0, 1) := eX12_player_110.1
theorem dX12_player_111 : decode cX12_player 111 = .ok (.iload_n 1, 1) := eX12_player_110.2.1
theorem dX12_player_112 : decode cX12_player 112 = .ok (.iconst (-1), 1) := eX12_player_110.2.2.1
theorem dX12_player_113 : decode cX12_player 113 = .ok (.invokevirtual 296, 3) := eX12_player_110.2.2.2.1
theorem dX12_player_116 : decode cX12_player 116 = .ok (.ireturn, 1) := eX12_player_110.2.2.2.2.1
theorem dX12_player_117 : decode cX12_player 117 = .ok (.aload_n 0, 1) := eX12_player_110.2.2.2.2.2.1
theorem dX12_player_118 : decode cX12_player 118 = .ok (.iconst 5, 1) := eX12_player_110.2.2.2.2.2.2.1
theorem dX12_player_119 : decode cX12_player 119 = .ok (.invokevirtual 284, 3) := eX12_player_110.2.2.2.2.2.2.2.1
theorem eX12_player_122 : decode cX12_player 122 = .ok (.ireturn, 1) ∧ True := dkl_ok (c := cX12_player) [(.ireturn, 1)] 122 (by decide +kernel)
theorem dX12_player_122 : decode cX12_player 122 = .ok (.ireturn, 1) := eX12_player_122.1
theorem eX12_hand_0 : decode cX12_hand 0 = .ok (.aload_n 0, 1) ∧ decode cX12_hand 1 = .ok (.iconst 0, 1) ∧ decode cX12_hand 2 = .ok (.putfield 59, 3) ∧ decode cX12_hand 5 = .ok (.aload_n 0, 1) ∧ decode cX12_hand 6 = .ok (.iconst 0, 1) ∧ decode cX12_hand 7 = .ok (.putfield 62, 3) ∧ decode cX12_hand 10 = .ok (.aload_n 0, 1) ∧ decode cX12_hand 11 = .ok (.iload_n 1, 1) ∧ True := dkl_ok (c := cX12_hand) [(.aload_n 0, 1), (.iconst 0, 1), (.putfield 59, 3), (.aload_n 0, 1), (.iconst 0, 1), (.putfield 62, 3), (.aload_n 0, 1), (.iload_n 1, 1)] 0 (by decide +kernel)
theorem dX12_hand_0 : decode cX12_hand 0 = .ok (.aload_n 0, 1) := eX12_hand_0.1
theorem dX12_hand_1 : decode cX12_hand 1 = .ok (.iconst 0, 1) := eX12_hand_0.2.1
theorem dX12_hand_2 : decode cX12_hand 2 = .ok (.putfield 59, 3) := eX12_hand_0.2.2.1
theorem dX12_hand_5 : decode cX12_hand 5 = .ok (.aload_n 0, 1) := eX12_hand_0.2.2.2.1
theorem dX12_hand_6 : decode cX12_hand 6 = .ok (.iconst 0, 1) := eX12_hand_0.2.2.2.2.1
theorem dX12_hand_7 : decode cX12_hand 7 = .ok (.putfield 62, 3) := eX12_hand_0.2.2.2.2.2.1
theorem dX12_hand_10 : decode cX12_hand 10 = .ok (.aload_n 0, 1) := eX12_hand_0.2.2.2.2.2.2.1
theorem dX12_hand_11 : decode cX12_hand 11 = .ok (.iload_n 1, 1) := eX12_hand_0.2.2.2.2.2.2.2.1
theorem eX12_hand_12 : decode cX12_hand 12 = .ok (.invokevirtual 290, 3) ∧ decode cX12_hand 15 = .ok (.ifCond .eq 20, 3) ∧ decode cX12_hand 18 = .ok (.aload_n 0, 1) ∧ decode cX12_hand 19 = .ok (.iload_n 2, 1) ∧ decode cX12_hand 20 = .ok (.invokevirtual 299, 3) ∧ decode cX12_hand 23 = .ok (.ifCond .eq 12, 3) ∧ decode cX12_hand 26 = .ok (.aload_n 0, 1) ∧ decode cX12_hand 27 = .ok (.iload_n 1, 1) ∧ True := dkl_ok (c := cX12_hand) [(.invokevirtual 290, 3), (.ifCond .eq 20, 3), (.aload_n 0, 1), (.iload_n 2, 1), (.invokevirtual 299, 3), (.ifCond .eq 12, 3), (.aload_n 0, 1), (.iload_n 1, 1)] 12 (by decide +kernel)
theorem dX12_hand_12 : decode cX12_hand 12 = .ok (.invokevirtual 290, 3) := eX12_hand_12.1
theorem dX12_hand_15 : decode cX12_hand 15 = .ok (.ifCond .eq 20, 3) := eX12_hand_12.2.1
theorem dX12_hand_18 : decode cX12_hand 18 = .ok (.aload_n 0, 1) := eX12_hand_12.2.2.1
theorem dX12_hand_19 : decode cX12_hand 19 = .ok (.iload_n 2, 1) := eX12_hand_12.2.2.2.1
theorem dX12_hand_20 : decode cX12_hand 20 = .ok (.invokevirtual 299, 3) := eX12_hand_12.2.2.2.2.1
theorem dX12_hand_23 : decode cX12_hand 23 = .ok (.ifCond .eq 12, 3) := eX12_hand_12.2.2.2.2.2.1
theorem dX12_hand_26 : decode cX12_hand 26 = .ok (.aload_n 0, 1) := eX12_hand_12.2.2.2.2.2.2.1
theorem dX12_hand_27 : decode cX12_hand 27 = .ok (.iload_n 1, 1) := eX12_hand_12.2.2.2.2.2.2.2.1
theorem eX12_hand_28 : decode cX12_hand 28 = .ok (.iload_n 2, 1) ∧ decode cX12_hand 29 = .ok (.invokevirtual 276, 3) ∧ decode cX12_hand 32 = .ok (.goto 8, 3) ∧ decode cX12_hand 35 = .ok (.aload_n 0, 1) ∧ decode cX12_hand 36 = .ok (.iconst 2, 1) ∧ decode cX12_hand 37 = .ok (.invokevirtual 284, 3) ∧ decode cX12_hand 40 = .ok (.ireturn, 1) ∧ True := dkl_ok (c := cX12_hand) [(.iload_n 2, 1), (.invokevirtual 276, 3), (.goto 8, 3), (.aload_n 0, 1), (.iconst 2, 1), (.invokevirtual 284, 3), (.ireturn, 1)] 28 (by decide +kernel)
theorem dX12_hand_28 : decode cX12_hand 28 = .ok (.iload_n 2, 1) := eX12_hand_28.1
theorem dX12_hand_29 : decode cX12_hand 29 = .ok (.invokevirtual 276, 3) := eX12_hand_28.2.1
theorem dX12_hand_32 : decode cX12_hand 32 = .ok (.goto 8, 3) := eX12_hand_28.2.2.1
theorem dX12_hand_35 : decode cX12_hand 35 = .ok (.aload_n 0, 1) := eX12_hand_28.2.2.2.1
theorem dX12_hand_36 : decode cX12_hand 36 = .ok (.iconst 2, 1) := eX12_hand_28.2.2.2.2.1
theorem dX12_hand_37 : decode cX12_hand 37 = .ok (.invokevirtual 284, 3) := eX12_hand_28.2.2.2.2.2.1
theorem dX12_hand_40 : decode cX12_hand 40 = .ok (.ireturn, 1) := eX12_hand_28.2.2.2.2.2.2.1
theorem eX12_inGameOf_0 : decode cX12_inGameOf 0 = .ok (.aload_n 0, 1) ∧ decode cX12_inGameOf 1 = .ok (.iconst (-1), 1) ∧ decode cX12_inGameOf 2 = .ok (.iload_n 1, 1) ∧ decode cX12_inGameOf 3 = .ok (.invokevirtual 296, 3) ∧ decode cX12_inGameOf 6 = .ok (.istore_n 2, 1) ∧ decode cX12_inGameOf 7 = .ok (.iconst 0, 1) ∧ decode cX12_inGameOf 8 = .ok (.istore_n 3, 1) ∧ decode cX12_inGameOf 9 = .ok (.iload_n 3, 1) ∧ True := dkl_ok (c := cX12_inGameOf) [(.aload_n 0, 1), (.iconst (-1), 1), (.iload_n 1, 1), (.invokevirtual 296, 3), (.istore_n 2, 1), (.iconst 0, 1), (.istore_n 3, 1), (.iload_n 3, 1)] 0 (by decide +kernel)
theorem dX12_inGameOf_0 : decode cX12_inGameOf 0 = .ok (.aload_n 0, 1) := eX12_inGameOf_0.1
theorem dX12_inGameOf_1 : decode cX12_inGameOf 1 = .ok (.iconst (-1), 1) := eX12_inGameOf_0.2.1
theorem dX12_inGameOf_2 : decode cX12_inGameOf 2 = .ok (.iload_n 1, 1) := eX12_inGameOf_0.2.2.1
theorem dX12_inGameOf_3 : decode cX12_inGameOf 3 = .ok (.invokevirtual 296, 3) := eX12_inGameOf_0.2.2.2.1
theorem dX12_inGameOf_6 : decode cX12_inGameOf 6 = .ok (.istore_n 2, 1) := eX12_inGameOf_0.2.2.2.2.1
theorem dX12_inGameOf_7 : decode cX12_inGameOf 7 = .ok (.iconst 0, 1) := eX12_inGameOf_0.2.2.2.2.2.1
theorem dX12_inGameOf_8 : decode cX12_inGameOf 8 = .ok (.istore_n 3, 1) := eX12_inGameOf_0.2.2.2.2.2.2.1
theorem dX12_inGameOf_9 : decode cX12_inGameOf 9 = .ok (.iload_n 3, 1) := eX12_inGameOf_0.2.2.2.2.2.2.2.1
theorem eX12_inGameOf_10 : decode cX12_inGameOf 10 = .ok (.aload_n 0, 1) ∧ decode cX12_inGameOf 11 = .ok (.getfield 35, 3) ∧ decode cX12_inGameOf 14 = .ok (.iconst 2, 1) ∧ decode cX12_inGameOf 15 = .ok (.iaload, 1) ∧ decode cX12_inGameOf 16 = .ok (.if_icmp .ge 18, 3) ∧ decode cX12_inGameOf 19 = .ok (.iload_n 2, 1) ∧ decode cX12_inGameOf 20 = .ok (.aload_n 0, 1) ∧ decode cX12_inGameOf 21 = .ok (.iload_n 3, 1) ∧ True := dkl_ok (c := cX12_inGameOf) [(.aload_n 0, 1), (.getfield 35, 3), (.iconst 2, 1), (.iaload, 1), (.if_icmp .ge 18, 3), (.iload_n 2, 1), (.aload_n 0, 1), (.iload_n 3, 1)] 10 (by decide +kernel)
theorem dX12_inGameOf_10 : decode cX12_inGameOf 10 = .ok (.aload_n 0, 1) := eX12_inGameOf_10.1
theorem dX12_inGameOf_11 : decode cX12_inGameOf 11 = .ok (.getfield 35, 3) := eX12_inGameOf_10.2.1
theorem dX12_inGameOf_14 : decode cX12_inGameOf 14 = .ok (.iconst 2, 1) := eX12_inGameOf_10.2.2.1
theorem dX12_inGameOf_15 : decode cX12_inGameOf 15 = .ok (.iaload, 1) := eX12_inGameOf_10.2.2.2.1
theorem dX12_inGameOf_16 : decode cX12_inGameOf 16 = .ok (.if_icmp .ge 18, 3) := eX12_inGameOf_10.2.2.2.2.1
theorem dX12_inGameOf_19 : decode cX12_inGameOf 19 = .ok (.iload_n 2, 1) := eX12_inGameOf_10.2.2.2.2.2.1
theorem dX12_inGameOf_20 : decode cX12_inGameOf 20 = .ok (.aload_n 0, 1) := eX12_inGameOf_10.2.2.2.2.2.2.1
theorem dX12_inGameOf_21 : decode cX12_inGameOf 21 = .ok (.iload_n 3, 1) := eX12_inGameOf_10.2.2.2.2.2.2.2.1
theorem eX12_inGameOf_22 : decode cX12_inGameOf 22 = .ok (.iload_n 1, 1) ∧ decode cX12_inGameOf 23 = .ok (.invokevirtual 276, 3) ∧ decode cX12_inGameOf 26 = .ok (.iadd, 1) ∧ decode cX12_inGameOf 27 = .ok (.istore_n 2, 1) ∧ decode cX12_inGameOf 28 = .ok (.iinc 3 1, 3) ∧ decode cX12_inGameOf 31 = .ok (.goto (-22), 3) ∧ decode cX12_inGameOf 34 = .ok (.iload_n 2, 1) ∧ decode cX12_inGameOf 35 = .ok (.ireturn, 1) ∧ True := dkl_ok (c := cX12_inGameOf) [(.iload_n 1, 1), (.invokevirtual 276, 3), (.iadd, 1), (.istore_n 2, 1), (.iinc 3 1, 3), (.goto (-22), 3), (.iload_n 2, 1), (.ireturn, 1)] 22 (by decide +kernel)
theorem dX12_inGameOf_22 : decode cX12_inGameOf 22 = .ok (.iload_n 1, 1) := eX12_inGameOf_22.1
theorem dX12_inGameOf_23 : decode cX12_inGameOf 23 = .ok (.invokevirtual 276, 3) := eX12_inGameOf_22.2.1
theorem dX12_inGameOf_26 : decode cX12_inGameOf 26 = .ok (.iadd, 1) := eX12_inGameOf_22.2.2.1
theorem dX12_inGameOf_27 : decode cX12_inGameOf 27 = .ok (.istore_n 2, 1) := eX12_inGameOf_22.2.2.2.1
theorem dX12_inGameOf_28 : decode cX12_inGameOf 28 = .ok (.iinc 3 1, 3) := eX12_inGameOf_22.2.2.2.2.1
theorem dX12_inGameOf_31 : decode cX12_inGameOf 31 = .ok (.goto (-22), 3) := eX12_inGameOf_22.2.2.2.2.2.1
theorem dX12_inGameOf_34 : decode cX12_inGameOf 34 = .ok (.iload_n 2, 1) := eX12_inGameOf_22.2.2.2.2.2.2.1
theorem dX12_inGameOf_35 : decode cX12_inGameOf 35 = .ok (.ireturn, 1) := eX12_inGameOf_22.2.2.2.2.2.2.2.1
theorem eX12_inGame_0 : decode cX12_inGame 0 = .ok (.aload_n 0, 1) ∧ decode cX12_inGame 1 = .ok (.iconst 0, 1) ∧ decode cX12_inGame 2 = .ok (.putfield 59, 3) ∧ decode cX12_inGame 5 = .ok (.aload_n 0, 1) ∧ decode cX12_inGame 6 = .ok (.iconst 0, 1) ∧ decode cX12_inGame 7 = .ok (.putfield 62, 3) ∧ decode cX12_inGame 10 = .ok (.aload_n 0, 1) ∧ decode cX12_inGame 11 = .ok (.iload_n 1, 1) ∧ True := dkl_ok (c := cX12_inGame) [(.aload_n 0, 1), (.iconst 0, 1), (.putfield 59, 3), (.aload_n 0, 1), (.iconst 0, 1), (.putfield 62, 3), (.aload_n 0, 1), (.iload_n 1, 1)] 0 (by decide +kernel)
theorem dX12_inGame_0 : decode cX12_inGame 0 = .ok (.aload_n 0, 1) := eX12_inGame_0.1
theorem dX12_inGame_1 : decode cX12_inGame 1 = .ok (.iconst 0, 1) := eX12_inGame_0.2.1
theorem dX12_inGame_2 : decode cX12_inGame 2 = .ok (.putfield 59, 3) := eX12_inGame_0.2.2.1
theorem dX12_inGame_5 : decode cX12_inGame 5 = .ok (.aload_n 0, 1) := eX12_inGame_0.2.2.2.1
theorem dX12_inGame_6 : decode cX12_inGame 6 = .ok (.iconst 0, 1) := eX12_inGame_0.2.2.2.2.1
theorem dX12_inGame_7 : decode cX12_inGame 7 = .ok (.putfield 62, 3) := eX12_inGame_0.2.2.2.2.2.1
theorem dX12_inGame_10 : decode cX12_inGame 10 = .ok (.aload_n 0, 1) := eX12_inGame_0.2.2.2.2.2.2.1
theorem dX12_inGame_11 : decode cX12_inGame 11 = .ok (.iload_n 1, 1) := eX12_inGame_0.2.2.2.2.2.2.2.1
theorem eX12_inGame_12 : decode cX12_inGame 12 = .ok (.invokevirtual 299, 3) ∧ decode cX12_inGame 15 = .ok (.ifCond .eq 11, 3) ∧ decode cX12_inGame 18 = .ok (.aload_n 0, 1) ∧ decode cX12_inGame 19 = .ok (.iload_n 1, 1) ∧ decode cX12_inGame 20 = .ok (.invokevirtual 302, 3) ∧ decode cX12_inGame 23 = .ok (.goto 8, 3) ∧ decode cX12_inGame 26 = .ok (.aload_n 0, 1) ∧ decode cX12_inGame 27 = .ok (.iconst 2, 1) ∧ True := dkl_ok (c := cX12_inGame) [(.invokevirtual 299, 3), (.ifCond .eq 11, 3), (.aload_n 0, 1), (.iload_n 1, 1), (.invokevirtual 302, 3), (.goto 8, 3), (.aload_n 0, 1), (.iconst 2, 1)] 12 (by decide +kernel)
theorem dX12_inGame_12 : decode cX12_inGame 12 = .ok (.invokevirtual 299, 3) := eX12_inGame_12.1
theorem dX12_inGame_15 : decode cX12_inGame 15 = .ok (.ifCond .eq 11, 3) := eX12_inGame_12.2.1
theorem dX12_inGame_18 : decode cX12_inGame 18 = .ok (.aload_n 0, 1) := eX12_inGame_12.2.2.1
theorem dX12_inGame_19 : decode cX12_inGame 19 = .ok (.iload_n 1, 1) := eX12_inGame_12.2.2.2.1
theorem dX12_inGame_20 : decode cX12_inGame 20 = .ok (.invokevirtual 302, 3) := eX12_inGame_12.2.2.2.2.1
theorem dX12_inGame_23 : decode cX12_inGame 23 = .ok (.goto 8, 3) := eX12_inGame_12.2.2.2.2.2.1
theorem dX12_inGame_26 : decode cX12_inGame 26 = .ok (.aload_n 0, 1) := eX12_inGame_12.2.2.2.2.2.2.1
theorem dX12_inGame_27 : decode cX12_inGame 27 = .ok (.iconst 2, 1) := eX12_inGame_12.2.2.2.2.2.2.2.1
theorem eX12_inGame_28 : decode cX12_inGame 28 = .ok (.invokevirtual 284, 3) ∧ decode cX12_inGame 31 = .ok (.ireturn, 1) ∧ True := dkl_ok (c := cX12_inGame) [(.invokevirtual 284, 3), (.ireturn, 1)] 28 (by decide +kernel)
theorem dX12_inGame_28 : decode cX12_inGame 28 = .ok (.invokevirtual 284, 3) := eX12_inGame_28.1
theorem dX12_inGame_31 : decode cX12_inGame 31 = .ok (.ireturn, 1) := eX12_inGame_28.2.1
theorem eX12_sortOf_0 : decode cX12_sortOf 0 = .ok (.iload_n 1, 1) ∧ decode cX12_sortOf 1 = .ok (.invokestatic 279, 3) ∧ decode cX12_sortOf 4 = .ok (.istore_n 2, 1) ∧ decode cX12_sortOf 5 = .ok (.iconst 0, 1) ∧ decode cX12_sortOf 6 = .ok (.istore_n 3, 1) ∧ decode cX12_sortOf 7 = .ok (.iconst 0, 1) ∧ decode cX12_sortOf 8 = .ok (.istore 4, 2) ∧ decode cX12_sortOf 10 = .ok (.iload 4, 2) ∧ True := dkl_ok (c := cX12_sortOf) [(.iload_n 1, 1), (.invokestatic 279, 3), (.istore_n 2, 1), (.iconst 0, 1), (.istore_n 3, 1), (.iconst 0, 1), (.istore 4, 2), (.iload 4, 2)] 0 (by decide +kernel)
theorem dX12_sortOf_0 : decode cX12_sortOf 0 = .ok (.iload_n 1, 1) := eX12_sortOf_0.1
theorem dX12_sortOf_1 : decode cX12_sortOf 1 = .ok (.invokestatic 279, 3) := eX12_sortOf_0.2.1
theorem dX12_sortOf_4 : decode cX12_sortOf 4 = .ok (.istore_n 2, 1) := eX12_sortOf_0.2.2.1
theorem dX12_sortOf_5 : decode cX12_sortOf 5 = .ok (.iconst 0, 1) := eX12_sortOf_0.2.2.2.1
theorem dX12_sortOf_6 : decode cX12_sortOf 6 = .ok (.istore_n 3, 1) := eX12_sortOf_0.2.2.2.2.1
theorem dX12_sortOf_7 : decode cX12_sortOf 7 = .ok (.iconst 0, 1) := eX12_sortOf_0.2.2.2.2.2.1
theorem dX12_sortOf_8 : decode cX12_sortOf 8 = .ok (.istore 4, 2) := eX12_sortOf_0.2.2.2.2.2.2.1
theorem dX12_sortOf_10 : decode cX12_sortOf 10 = .ok (.iload 4, 2) := eX12_sortOf_0.2.2.2.2.2.2.2.1
theorem eX12_sortOf_12 : decode cX12_sortOf 12 = .ok (.aload_n 0, 1) ∧ decode cX12_sortOf 13 = .ok (.getfield 35, 3) ∧ decode cX12_sortOf 16 = .ok (.iload_n 2, 1) ∧ decode cX12_sortOf 17 = .ok (.iconst 2, 1) ∧ decode cX12_sortOf 18 = .ok (.iadd, 1) ∧ decode cX12_sortOf 19 = .ok (.iaload, 1) ∧ decode cX12_sortOf 20 = .ok (.if_icmp .ge 39, 3) ∧ decode cX12_sortOf 23 = .ok (.iload_n 3, 1) ∧ True := dkl_ok (c := cX12_sortOf) [(.aload_n 0, 1), (.getfield 35, 3), (.iload_n 2, 1), (.iconst 2, 1), (.iadd, 1), (.iaload, 1), (.if_icmp .ge 39, 3), (.iload_n 3, 1)] 12 (by decide +kernel)
theorem dX12_sortOf_12 : decode cX12_sortOf 12 = .ok (.aload_n 0, 1) := eX12_sortOf_12.1
theorem dX12_sortOf_13 : decode cX12_sortOf 13 = .ok (.getfield 35, 3) := eX12_sortOf_12.2.1
theorem dX12_sortOf_16 : decode cX12_sortOf 16 = .ok (.iload_n 2, 1) := eX12_sortOf_12.2.2.1
theorem dX12_sortOf_17 : decode cX12_sortOf 17 = .ok (.iconst 2, 1) := eX12_sortOf_12.2.2.2.1
theorem dX12_sortOf_18 : decode cX12_sortOf 18 = .ok (.iadd, 1) := eX12_sortOf_12.2.2.2.2.1
theorem dX12_sortOf_19 : decode cX12_sortOf 19 = .ok (.iaload, 1) := eX12_sortOf_12.2.2.2.2.2.1
theorem dX12_sortOf_20 : decode cX12_sortOf 20 = .ok (.if_icmp .ge 39, 3) := eX12_sortOf_12.2.2.2.2.2.2.1
theorem dX12_sortOf_23 : decode cX12_sortOf 23 = .ok (.iload_n 3, 1) := eX12_sortOf_12.2.2.2.2.2.2.2.1
theorem eX12_sortOf_24 : decode cX12_sortOf 24 = .ok (.aload_n 0, 1) ∧ decode cX12_sortOf 25 = .ok (.getfield 35, 3) ∧ decode cX12_sortOf 28 = .ok (.iload_n 2, 1) ∧ decode cX12_sortOf 29 = .ok (.iconst 3, 1) ∧ decode cX12_sortOf 30 = .ok (.iadd, 1) ∧ decode cX12_sortOf 31 = .ok (.iload 4, 2) ∧ decode cX12_sortOf 33 = .ok (.iadd, 1) ∧ decode cX12_sortOf 34 = .ok (.iaload, 1) ∧ True := dkl_ok (c := cX12_sortOf) [(.aload_n 0, 1), (.getfield 35, 3), (.iload_n 2, 1), (.iconst 3, 1), (.iadd, 1), (.iload 4, 2), (.iadd, 1), (.iaload, 1)] 24 (by decide +kernel)
theorem dX12_sortOf_24 : decode cX12_sortOf 24 = .ok (.aload_n 0, 1) := eX12_sortOf_24.1
theorem dX12_sortOf_25 : decode cX12_sortOf 25 = .ok (.getfield 35, 3) := eX12_sortOf_24.2.1
theorem dX12_sortOf_28 : decode cX12_sortOf 28 = .ok (.iload_n 2, 1) := eX12_sortOf_24.2.2.1
theorem dX12_sortOf_29 : decode cX12_sortOf 29 = .ok (.iconst 3, 1) := eX12_sortOf_24.2.2.2.1
theorem dX12_sortOf_30 : decode cX12_sortOf 30 = .ok (.iadd, 1) := eX12_sortOf_24.2.2.2.2.1
theorem dX12_sortOf_31 : decode cX12_sortOf 31 = .ok (.iload 4, 2) := eX12_sortOf_24.2.2.2.2.2.1
theorem dX12_sortOf_33 : decode cX12_sortOf 33 = .ok (.iadd, 1) := eX12_sortOf_24.2.2.2.2.2.2.1
theorem dX12_sortOf_34 : decode cX12_sortOf 34 = .ok (.iaload, 1) := eX12_sortOf_24.2.2.2.2.2.2.2.1
theorem eX12_sortOf_35 : decode cX12_sortOf 35 = .ok (.aload_n 0, 1) ∧ decode cX12_sortOf 36 = .ok (.getfield 35, 3) ∧ decode cX12_sortOf 39 = .ok (.iload_n 2, 1) ∧ decode cX12_sortOf 40 = .ok (.iconst 1, 1) ∧ decode cX12_sortOf 41 = .ok (.iadd, 1) ∧ decode cX12_sortOf 42 = .ok (.iaload, 1) ∧ decode cX12_sortOf 43 = .ok (.if_icmp .ne 7, 3) ∧ decode cX12_sortOf 46 = .ok (.iconst 1, 1) ∧ True := dkl_ok (c := cX12_sortOf) [(.aload_n 0, 1), (.getfield 35, 3), (.iload_n 2, 1), (.iconst 1, 1), (.iadd, 1), (.iaload, 1), (.if_icmp .ne 7, 3), (.iconst 1, 1)] 35 (by decide +kernel)
theorem dX12_sortOf_35 : decode cX12_sortOf 35 = .ok (.aload_n 0, 1) := eX12_sortOf_35.1
theorem dX12_sortOf_36 : decode cX12_sortOf 36 = .ok (.getfield 35, 3) := eX12_sortOf_35.2.1
theorem dX12_sortOf_39 : decode cX12_sortOf 39 = .ok (.iload_n 2, 1) := eX12_sortOf_35.2.2.1
theorem dX12_sortOf_40 : decode cX12_sortOf 40 = .ok (.iconst 1, 1) := eX12_sortOf_35.2.2.2.1
theorem dX12_sortOf_41 : decode cX12_sortOf 41 = .ok (.iadd, 1) := eX12_sortOf_35.2.2.2.2.1
theorem dX12_sortOf_42 : decode cX12_sortOf 42 = .ok (.iaload, 1) := eX12_sortOf_35.2.2.2.2.2.1
theorem dX12_sortOf_43 : decode cX12_sortOf 43 = .ok (.if_icmp .ne 7, 3) := eX12_sortOf_35.2.2.2.2.2.2.1
theorem dX12_sortOf_46 : decode cX12_sortOf 46 = .ok (.iconst 1, 1) := eX12_sortOf_35.2.2.2.2.2.2.2.1
theorem eX12_sortOf_47 : decode cX12_sortOf 47 = .ok (.goto 4, 3) ∧ decode cX12_sortOf 50 = .ok (.iconst 0, 1) ∧ decode cX12_sortOf 51 = .ok (.iadd, 1) ∧ decode cX12_sortOf 52 = .ok (.istore_n 3, 1) ∧ decode cX12_sortOf 53 = .ok (.iinc 4 1, 3) ∧ decode cX12_sortOf 56 = .ok (.goto (-46), 3) ∧ decode cX12_sortOf 59 = .ok (.iload_n 3, 1) ∧ decode cX12_sortOf 60 = .ok (.aload_n 0, 1) ∧ True := dkl_ok (c := cX12_sortOf) [(.goto 4, 3), (.iconst 0, 1), (.iadd, 1), (.istore_n 3, 1), (.iinc 4 1, 3), (.goto (-46), 3), (.iload_n 3, 1), (.aload_n 0, 1)] 47 (by decide +kernel)
theorem dX12_sortOf_47 : decode cX12_sortOf 47 = .ok (.goto 4, 3) := eX12_sortOf_47.1
theorem dX12_sortOf_50 : decode cX12_sortOf 50 = .ok (.iconst 0, 1) := eX12_sortOf_47.2.1
theorem dX12_sortOf_51 : decode cX12_sortOf 51 = .ok (.iadd, 1) := eX12_sortOf_47.2.2.1
theorem dX12_sortOf_52 : decode cX12_sortOf 52 = .ok (.istore_n 3, 1) := eX12_sortOf_47.2.2.2.1
theorem dX12_sortOf_53 : decode cX12_sortOf 53 = .ok (.iinc 4 1, 3) := eX12_sortOf_47.2.2.2.2.1
theorem dX12_sortOf_56 : decode cX12_sortOf 56 = .ok (.goto (-46), 3) := eX12_sortOf_47.2.2.2.2.2.1
theorem dX12_sortOf_59 : decode cX12_sortOf 59 = .ok (.iload_n 3, 1) := eX12_sortOf_47.2.2.2.2.2.2.1
theorem dX12_sortOf_60 : decode cX12_sortOf 60 = .ok (.aload_n 0, 1) := eX12_sortOf_47.2.2.2.2.2.2.2.1
theorem eX12_sortOf_61 : decode cX12_sortOf 61 = .ok (.getfield 35, 3) ∧ decode cX12_sortOf 64 = .ok (.iload_n 2, 1) ∧ decode cX12_sortOf 65 = .ok (.iconst 2, 1) ∧ decode cX12_sortOf 66 = .ok (.iadd, 1) ∧ decode cX12_sortOf 67 = .ok (.iaload, 1) ∧ decode cX12_sortOf 68 = .ok (.if_icmp .ne 7, 3) ∧ decode cX12_sortOf 71 = .ok (.iconst 0, 1) ∧ decode cX12_sortOf 72 = .ok (.goto 12, 3) ∧ True := dkl_ok (c := cX12_sortOf) [(.getfield 35, 3), (.iload_n 2, 1), (.iconst 2, 1), (.iadd, 1), (.iaload, 1), (.if_icmp .ne 7, 3), (.iconst 0, 1), (.goto 12, 3)] 61 (by decide +kernel)
theorem dX12_sortOf_61 : decode cX12_sortOf 61 = .ok (.getfield 35, 3) := eX12_sortOf_61.1
theorem dX12_sortOf_64 : decode cX12_sortOf 64 = .ok (.iload_n 2, 1) := eX12_sortOf_61.2.1
theorem dX12_sortOf_65 : decode cX12_sortOf 65 = .ok (.iconst 2, 1) := eX12_sortOf_61.2.2.1
theorem dX12_sortOf_66 : decode cX12_sortOf 66 = .ok (.iadd, 1) := eX12_sortOf_61.2.2.2.1
theorem dX12_sortOf_67 : decode cX12_sortOf 67 = .ok (.iaload, 1) := eX12_sortOf_61.2.2.2.2.1
theorem dX12_sortOf_68 : decode cX12_sortOf 68 = .ok (.if_icmp .ne 7, 3) := eX12_sortOf_61.2.2.2.2.2.1
theorem dX12_sortOf_71 : decode cX12_sortOf 71 = .ok (.iconst 0, 1) := eX12_sortOf_61.2.2.2.2.2.2.1
theorem dX12_sortOf_72 : decode cX12_sortOf 72 = .ok (.goto 12, 3) := eX12_sortOf_61.2.2.2.2.2.2.2.1
theorem eX12_sortOf_75 : decode cX12_sortOf 75 = .ok (.iload_n 3, 1) ∧ decode cX12_sortOf 76 = .ok (.ifCond .ne 7, 3) ∧ decode cX12_sortOf 79 = .ok (.iconst 2, 1) ∧ decode cX12_sortOf 80 = .ok (.goto 4, 3) ∧ decode cX12_sortOf 83 = .ok (.iconst 1, 1) ∧ decode cX12_sortOf 84 = .ok (.ireturn, 1) ∧ True := dkl_ok (c := cX12_sortOf) [(.iload_n 3, 1), (.ifCond .ne 7, 3), (.iconst 2, 1), (.goto 4, 3), (.iconst 1, 1), (.ireturn, 1)] 75 (by decide +kernel)
theorem dX12_sortOf_75 : decode cX12_sortOf 75 = .ok (.iload_n 3, 1) := eX12_sortOf_75.1
theorem dX12_sortOf_76 : decode cX12_sortOf 76 = .ok (.ifCond .ne 7, 3) := eX12_sortOf_75.2.1
theorem dX12_sortOf_79 : decode cX12_sortOf 79 = .ok (.iconst 2, 1) := eX12_sortOf_75.2.2.1
theorem dX12_sortOf_80 : decode cX12_sortOf 80 = .ok (.goto 4, 3) := eX12_sortOf_75.2.2.2.1
theorem dX12_sortOf_83 : decode cX12_sortOf 83 = .ok (.iconst 1, 1) := eX12_sortOf_75.2.2.2.2.1
theorem dX12_sortOf_84 : decode cX12_sortOf 84 = .ok (.ireturn, 1) := eX12_sortOf_75.2.2.2.2.2.1
theorem eX12_laying_0 : decode cX12_laying 0 = .ok (.aload_n 0, 1) ∧ decode cX12_laying 1 = .ok (.iconst 0, 1) ∧ decode cX12_laying 2 = .ok (.putfield 59, 3) ∧ decode cX12_laying 5 = .ok (.aload_n 0, 1) ∧ decode cX12_laying 6 = .ok (.iconst 0, 1) ∧ decode cX12_laying 7 = .ok (.putfield 62, 3) ∧ decode cX12_laying 10 = .ok (.iload_n 2, 1) ∧ decode cX12_laying 11 = .ok (.i2l, 1) ∧ True := dkl_ok (c := cX12_laying) [(.aload_n 0, 1), (.iconst 0, 1), (.putfield 59, 3), (.aload_n 0, 1), (.iconst 0, 1), (.putfield 62, 3), (.iload_n 2, 1), (.i2l, 1)] 0 (by decide +kernel)
theorem dX12_laying_0 : decode cX12_laying 0 = .ok (.aload_n 0, 1) := eX12_laying_0.1
theorem dX12_laying_1 : decode cX12_laying 1 = .ok (.iconst 0, 1) := eX12_laying_0.2.1
theorem dX12_laying_2 : decode cX12_laying 2 = .ok (.putfield 59, 3) := eX12_laying_0.2.2.1
theorem dX12_laying_5 : decode cX12_laying 5 = .ok (.aload_n 0, 1) := eX12_laying_0.2.2.2.1
theorem dX12_laying_6 : decode cX12_laying 6 = .ok (.iconst 0, 1) := eX12_laying_0.2.2.2.2.1
theorem dX12_laying_7 : decode cX12_laying 7 = .ok (.putfield 62, 3) := eX12_laying_0.2.2.2.2.2.1
theorem dX12_laying_10 : decode cX12_laying 10 = .ok (.iload_n 2, 1) := eX12_laying_0.2.2.2.2.2.2.1
theorem dX12_laying_11 : decode cX12_laying 11 = .ok (.i2l, 1) := eX12_laying_0.2.2.2.2.2.2.2.1
theorem eX12_laying_12 : decode cX12_laying 12 = .ok (.lconst 0, 1) ∧ decode cX12_laying 13 = .ok (.ldc2_w 92, 3) ∧ decode cX12_laying 16 = .ok (.invokestatic 94, 3) ∧ decode cX12_laying 19 = .ok (.ifCond .ne 9, 3) ∧ decode cX12_laying 22 = .ok (.aload_n 0, 1) ∧ decode cX12_laying 23 = .ok (.iconst 5, 1) ∧ decode cX12_laying 24 = .ok (.invokevirtual 284, 3) ∧ decode cX12_laying 27 = .ok (.ireturn, 1) ∧ True := dkl_ok (c := cX12_laying) [(.lconst 0, 1), (.ldc2_w 92, 3), (.invokestatic 94, 3), (.ifCond .ne 9, 3), (.aload_n 0, 1), (.iconst 5, 1), (.invokevirtual 284, 3), (.ireturn, 1)] 12 (by decide +kernel)
theorem dX12_laying_12 : decode cX12_laying 12 = .ok (.lconst 0, 1) := eX12_laying_12.1
theorem dX12_laying_13 : decode cX12_laying 13 = .ok (.ldc2_w 92, 3) := eX12_laying_12.2.1
theorem dX12_laying_16 : decode cX12_laying 16 = .ok (.invokestatic 94, 3) := eX12_laying_12.2.2.1
theorem dX12_laying_19 : decode cX12_laying 19 = .ok (.ifCond .ne 9, 3) := eX12_laying_12.2.2.2.1
theorem dX12_laying_22 : decode cX12_laying 22 = .ok (.aload_n 0, 1) := eX12_laying_12.2.2.2.2.1
theorem dX12_laying_23 : decode cX12_laying 23 = .ok (.iconst 5, 1) := eX12_laying_12.2.2.2.2.2.1
theorem dX12_laying_24 : decode cX12_laying 24 = .ok (.invokevirtual 284, 3) := eX12_laying_12.2.2.2.2.2.2.1
theorem dX12_laying_27 : decode cX12_laying 27 = .ok (.ireturn, 1) := eX12_laying_12.2.2.2.2.2.2.2.1
theorem eX12_laying_28 : decode cX12_laying 28 = .ok (.iload_n 1, 1) ∧ decode cX12_laying 29 = .ok (.i2l, 1) ∧ decode cX12_laying 30 = .ok (.lconst 0, 1) ∧ decode cX12_laying 31 = .ok (.aload_n 0, 1) ∧ decode cX12_laying 32 = .ok (.getfield 35, 3) ∧ decode cX12_laying 35 = .ok (.bipush 9, 2) ∧ decode cX12_laying 37 = .ok (.iaload, 1) ∧ decode cX12_laying 38 = .ok (.iconst 1, 1) ∧ True := dkl_ok (c := cX12_laying) [(.iload_n 1, 1), (.i2l, 1), (.lconst 0, 1), (.aload_n 0, 1), (.getfield 35, 3), (.bipush 9, 2), (.iaload, 1), (.iconst 1, 1)] 28 (by decide +kernel)
theorem dX12_laying_28 : decode cX12_laying 28 = .ok (.iload_n 1, 1) := eX12_laying_28.1
theorem dX12_laying_29 : decode cX12_laying 29 = .ok (.i2l, 1) := eX12_laying_28.2.1
theorem dX12_laying_30 : decode cX12_laying 30 = .ok (.lconst 0, 1) := eX12_laying_28.2.2.1
theorem dX12_laying_31 : decode cX12_laying 31 = .ok (.aload_n 0, 1) := eX12_laying_28.2.2.2.1
theorem dX12_laying_32 : decode cX12_laying 32 = .ok (.getfield 35, 3) := eX12_laying_28.2.2.2.2.1
theorem dX12_laying_35 : decode cX12_laying 35 = .ok (.bipush 9, 2) := eX12_laying_28.2.2.2.2.2.1
theorem dX12_laying_37 : decode cX12_laying 37 = .ok (.iaload, 1) := eX12_laying_28.2.2.2.2.2.2.1
theorem dX12_laying_38 : decode cX12_laying 38 = .ok (.iconst 1, 1) := eX12_laying_28.2.2.2.2.2.2.2.1
theorem eX12_laying_39 : decode cX12_laying 39 = .ok (.isub, 1) ∧ decode cX12_laying 40 = .ok (.i2l, 1) ∧ decode cX12_laying 41 = .ok (.invokestatic 94, 3) ∧ decode cX12_laying 44 = .ok (.ifCond .ne 10, 3) ∧ decode cX12_laying 47 = .ok (.aload_n 0, 1) ∧ decode cX12_laying 48 = .ok (.bipush 8, 2) ∧ decode cX12_laying 50 = .ok (.invokevirtual 284, 3) ∧ decode cX12_laying 53 = .ok (.ireturn, 1) ∧ True := dkl_ok (c := cX12_laying) [(.isub, 1), (.i2l, 1), (.invokestatic 94, 3), (.ifCond .ne 10, 3), (.aload_n 0, 1), (.bipush 8, 2), (.invokevirtual 284, 3), (.ireturn, 1)] 39 (by decide +kernel)
theorem dX12_laying_39 : decode cX12_laying 39 = .ok (.isub, 1) := eX12_laying_39.1
theorem dX12_laying_40 : decode cX12_laying 40 = .ok (.i2l, 1) := eX12_laying_39.2.1
theorem dX12_laying_41 : decode cX12_laying 41 = .ok (.invokestatic 94, 3) := eX12_laying_39.2.2.1
theorem dX12_laying_44 : decode cX12_laying 44 = .ok (.ifCond .ne 10, 3) := eX12_laying_39.2.2.2.1
theorem dX12_laying_47 : decode cX12_laying 47 = .ok (.aload_n 0, 1) := eX12_laying_39.2.2.2.2.1
theorem dX12_laying_48 : decode cX12_laying 48 = .ok (.bipush 8, 2) := eX12_laying_39.2.2.2.2.2.1
theorem dX12_laying_50 : decode cX12_laying 50 = .ok (.invokevirtual 284, 3) := eX12_laying_39.2.2.2.2.2.2.1
theorem dX12_laying_53 : decode cX12_laying 53 = .ok (.ireturn, 1) := eX12_laying_39.2.2.2.2.2.2.2.1
theorem eX12_laying_54 : decode cX12_laying 54 = .ok (.iload_n 2, 1) ∧ decode cX12_laying 55 = .ok (.iconst 3, 1) ∧ decode cX12_laying 56 = .ok (.if_icmp .ne 11, 3) ∧ decode cX12_laying 59 = .ok (.aload_n 0, 1) ∧ decode cX12_laying 60 = .ok (.iload_n 1, 1) ∧ decode cX12_laying 61 = .ok (.invokevirtual 305, 3) ∧ decode cX12_laying 64 = .ok (.goto 14, 3) ∧ decode cX12_laying 67 = .ok (.aload_n 0, 1) ∧ True := dkl_ok (c := cX12_laying) [(.iload_n 2, 1), (.iconst 3, 1), (.if_icmp .ne 11, 3), (.aload_n 0, 1), (.iload_n 1, 1), (.invokevirtual 305, 3), (.goto 14, 3), (.aload_n 0, 1)] 54 (by decide +kernel)
theorem dX12_laying_54 : decode cX12_laying 54 = .ok (.iload_n 2, 1) := eX12_laying_54.1
theorem dX12_laying_55 : decode cX12_laying 55 = .ok (.iconst 3, 1) := eX12_laying_54.2.1
theorem dX12_laying_56 : decode cX12_laying 56 = .ok (.if_icmp .ne 11, 3) := eX12_laying_54.2.2.1
theorem dX12_laying_59 : decode cX12_laying 59 = .ok (.aload_n 0, 1) := eX12_laying_54.2.2.2.1
theorem dX12_laying_60 : decode cX12_laying 60 = .ok (.iload_n 1, 1) := eX12_laying_54.2.2.2.2.1
theorem dX12_laying_61 : decode cX12_laying 61 = .ok (.invokevirtual 305, 3) := eX12_laying_54.2.2.2.2.2.1
theorem dX12_laying_64 : decode cX12_laying 64 = .ok (.goto 14, 3) := eX12_laying_54.2.2.2.2.2.2.1
theorem dX12_laying_67 : decode cX12_laying 67 = .ok (.aload_n 0, 1) := eX12_laying_54.2.2.2.2.2.2.2.1
theorem eX12_laying_68 : decode cX12_laying 68 = .ok (.getfield 35, 3) ∧ decode cX12_laying 71 = .ok (.iload_n 1, 1) ∧ decode cX12_laying 72 = .ok (.invokestatic 279, 3) ∧ decode cX12_laying 75 = .ok (.iload_n 2, 1) ∧ decode cX12_laying 76 = .ok (.iadd, 1) ∧ decode cX12_laying 77 = .ok (.iaload, 1) ∧ decode cX12_laying 78 = .ok (.ireturn, 1) ∧ True := dkl_ok (c := cX12_laying) [(.getfield 35, 3), (.iload_n 1, 1), (.invokestatic 279, 3), (.iload_n 2, 1), (.iadd, 1), (.iaload, 1), (.ireturn, 1)] 68 (by decide +kernel)
theorem dX12_laying_68 : decode cX12_laying 68 = .ok (.getfield 35, 3) := eX12_laying_68.1
theorem dX12_laying_71 : decode cX12_laying 71 = .ok (.iload_n 1, 1) := eX12_laying_68.2.1
theorem dX12_laying_72 : decode cX12_laying 72 = .ok (.invokestatic 279, 3) := eX12_laying_68.2.2.1
theorem dX12_laying_75 : decode cX12_laying 75 = .ok (.iload_n 2, 1) := eX12_laying_68.2.2.2.1
theorem dX12_laying_76 : decode cX12_laying 76 = .ok (.iadd, 1) := eX12_laying_68.2.2.2.2.1
theorem dX12_laying_77 : decode cX12_laying 77 = .ok (.iaload, 1) := eX12_laying_68.2.2.2.2.2.1
theorem dX12_laying_78 : decode cX12_laying 78 = .ok (.ireturn, 1) := eX12_laying_68.2.2.2.2.2.2.1
theorem eX12_cardOf_0 : decode cX12_cardOf 0 = .ok (.aload_n 0, 1) ∧ decode cX12_cardOf 1 = .ok (.iconst 0, 1) ∧ decode cX12_cardOf 2 = .ok (.putfield 59, 3) ∧ decode cX12_cardOf 5 = .ok (.aload_n 0, 1) ∧ decode cX12_cardOf 6 = .ok (.iconst 0, 1) ∧ decode cX12_cardOf 7 = .ok (.putfield 62, 3) ∧ decode cX12_cardOf 10 = .ok (.iload_n 1, 1) ∧ decode cX12_cardOf 11 = .ok (.i2l, 1) ∧ True := dkl_ok (c := cX12_cardOf) [(.aload_n 0, 1), (.iconst 0, 1), (.putfield 59, 3), (.aload_n 0, 1), (.iconst 0, 1), (.putfield 62, 3), (.iload_n 1, 1), (.i2l, 1)] 0 (by decide +kernel)
theorem dX12_cardOf_0 : decode cX12_cardOf 0 = .ok (.aload_n 0, 1) := eX12_cardOf_0.1
theorem dX12_cardOf_1 : decode cX12_cardOf 1 = .ok (.iconst 0, 1) := eX12_cardOf_0.2.1
theorem dX12_cardOf_2 : decode cX12_cardOf 2 = .ok (.putfield 59, 3) := eX12_cardOf_0.2.2.1
theorem dX12_cardOf_5 : decode cX12_cardOf 5 = .ok (.aload_n 0, 1) := eX12_cardOf_0.2.2.2.1
theorem dX12_cardOf_6 : decode cX12_cardOf 6 = .ok (.iconst 0, 1) := eX12_cardOf_0.2.2.2.2.1
theorem dX12_cardOf_7 : decode cX12_cardOf 7 = .ok (.putfield 62, 3) := eX12_cardOf_0.2.2.2.2.2.1
theorem dX12_cardOf_10 : decode cX12_cardOf 10 = .ok (.iload_n 1, 1) := eX12_cardOf_0.2.2.2.2.2.2.1
theorem dX12_cardOf_11 : decode cX12_cardOf 11 = .ok (.i2l, 1) := eX12_cardOf_0.2.2.2.2.2.2.2.1
theorem eX12_cardOf_12 : decode cX12_cardOf 12 = .ok (.lconst 0, 1) ∧ decode cX12_cardOf 13 = .ok (.aload_n 0, 1) ∧ decode cX12_cardOf 14 = .ok (.getfield 35, 3) ∧ decode cX12_cardOf 17 = .ok (.bipush 9, 2) ∧ decode cX12_cardOf 19 = .ok (.iaload, 1) ∧ decode cX12_cardOf 20 = .ok (.iconst 1, 1) ∧ decode cX12_cardOf 21 = .ok (.isub, 1) ∧ decode cX12_cardOf 22 = .ok (.i2l, 1) ∧ True := dkl_ok (c := cX12_cardOf) [(.lconst 0, 1), (.aload_n 0, 1), (.getfield 35, 3), (.bipush 9, 2), (.iaload, 1), (.iconst 1, 1), (.isub, 1), (.i2l, 1)] 12 (by decide +kernel)
theorem dX12_cardOf_12 : decode cX12_cardOf 12 = .ok (.lconst 0, 1) := eX12_cardOf_12.1
theorem dX12_cardOf_13 : decode cX12_cardOf 13 = .ok (.aload_n 0, 1) := eX12_cardOf_12.2.1
theorem dX12_cardOf_14 : decode cX12_cardOf 14 = .ok (.getfield 35, 3) := eX12_cardOf_12.2.2.1
theorem dX12_cardOf_17 : decode cX12_cardOf 17 = .ok (.bipush 9, 2) := eX12_cardOf_12.2.2.2.1
theorem dX12_cardOf_19 : decode cX12_cardOf 19 = .ok (.iaload, 1) := eX12_cardOf_12.2.2.2.2.1
theorem dX12_cardOf_20 : decode cX12_cardOf 20 = .ok (.iconst 1, 1) := eX12_cardOf_12.2.2.2.2.2.1
theorem dX12_cardOf_21 : decode cX12_cardOf 21 = .ok (.isub, 1) := eX12_cardOf_12.2.2.2.2.2.2.1
theorem dX12_cardOf_22 : decode cX12_cardOf 22 = .ok (.i2l, 1) := eX12_cardOf_12.2.2.2.2.2.2.2.1
theorem eX12_cardOf_23 : decode cX12_cardOf 23 = .ok (.invokestatic 94, 3) ∧ decode cX12_cardOf 26 = .ok (.ifCond .eq 26, 3) ∧ decode cX12_cardOf 29 = .ok (.iload_n 2, 1) ∧ decode cX12_cardOf 30 = .ok (.i2l, 1) ∧ decode cX12_cardOf 31 = .ok (.lconst 0, 1) ∧ decode cX12_cardOf 32 = .ok (.aload_n 0, 1) ∧ decode cX12_cardOf 33 = .ok (.getfield 35, 3) ∧ decode cX12_cardOf 36 = .ok (.iload_n 1, 1) ∧ True := dkl_ok (c := cX12_cardOf) [(.invokestatic 94, 3), (.ifCond .eq 26, 3), (.iload_n 2, 1), (.i2l, 1), (.lconst 0, 1), (.aload_n 0, 1), (.getfield 35, 3), (.iload_n 1, 1)] 23 (by decide +kernel)
theorem dX12_cardOf_23 : decode cX12_cardOf 23 = .ok (.invokestatic 94, 3) := eX12_cardOf_23.1
theorem dX12_cardOf_26 : decode cX12_cardOf 26 = .ok (.ifCond .eq 26, 3) := eX12_cardOf_23.2.1
theorem dX12_cardOf_29 : decode cX12_cardOf 29 = .ok (.iload_n 2, 1) := eX12_cardOf_23.2.2.1
theorem dX12_cardOf_30 : decode cX12_cardOf 30 = .ok (.i2l, 1) := eX12_cardOf_23.2.2.2.1
theorem dX12_cardOf_31 : decode cX12_cardOf 31 = .ok (.lconst 0, 1) := eX12_cardOf_23.2.2.2.2.1
theorem dX12_cardOf_32 : decode cX12_cardOf 32 = .ok (.aload_n 0, 1) := eX12_cardOf_23.2.2.2.2.2.1
theorem dX12_cardOf_33 : decode cX12_cardOf 33 = .ok (.getfield 35, 3) := eX12_cardOf_23.2.2.2.2.2.2.1
theorem dX12_cardOf_36 : decode cX12_cardOf 36 = .ok (.iload_n 1, 1) := eX12_cardOf_23.2.2.2.2.2.2.2.1
theorem eX12_cardOf_37 : decode cX12_cardOf 37 = .ok (.invokestatic 279, 3) ∧ decode cX12_cardOf 40 = .ok (.iconst 2, 1) ∧ decode cX12_cardOf 41 = .ok (.iadd, 1) ∧ decode cX12_cardOf 42 = .ok (.iaload, 1) ∧ decode cX12_cardOf 43 = .ok (.iconst 1, 1) ∧ decode cX12_cardOf 44 = .ok (.isub, 1) ∧ decode cX12_cardOf 45 = .ok (.i2l, 1) ∧ decode cX12_cardOf 46 = .ok (.invokestatic 94, 3) ∧ True := dkl_ok (c := cX12_cardOf) [(.invokestatic 279, 3), (.iconst 2, 1), (.iadd, 1), (.iaload, 1), (.iconst 1, 1), (.isub, 1), (.i2l, 1), (.invokestatic 94, 3)] 37 (by decide +kernel)
theorem dX12_cardOf_37 : decode cX12_cardOf 37 = .ok (.invokestatic 279, 3) := eX12_cardOf_37.1
theorem dX12_cardOf_40 : decode cX12_cardOf 40 = .ok (.iconst 2, 1) := eX12_cardOf_37.2.1
theorem dX12_cardOf_41 : decode cX12_cardOf 41 = .ok (.iadd, 1) := eX12_cardOf_37.2.2.1
theorem dX12_cardOf_42 : decode cX12_cardOf 42 = .ok (.iaload, 1) := eX12_cardOf_37.2.2.2.1
theorem dX12_cardOf_43 : decode cX12_cardOf 43 = .ok (.iconst 1, 1) := eX12_cardOf_37.2.2.2.2.1
theorem dX12_cardOf_44 : decode cX12_cardOf 44 = .ok (.isub, 1) := eX12_cardOf_37.2.2.2.2.2.1
theorem dX12_cardOf_45 : decode cX12_cardOf 45 = .ok (.i2l, 1) := eX12_cardOf_37.2.2.2.2.2.2.1
theorem dX12_cardOf_46 : decode cX12_cardOf 46 = .ok (.invokestatic 94, 3) := eX12_cardOf_37.2.2.2.2.2.2.2.1
theorem eX12_cardOf_49 : decode cX12_cardOf 49 = .ok (.ifCond .ne 10, 3) ∧ decode cX12_cardOf 52 = .ok (.aload_n 0, 1) ∧ decode cX12_cardOf 53 = .ok (.bipush 8, 2) ∧ decode cX12_cardOf 55 = .ok (.invokevirtual 284, 3) ∧ decode cX12_cardOf 58 = .ok (.ireturn, 1) ∧ decode cX12_cardOf 59 = .ok (.aload_n 0, 1) ∧ decode cX12_cardOf 60 = .ok (.getfield 35, 3) ∧ decode cX12_cardOf 63 = .ok (.iload_n 1, 1) ∧ True := dkl_ok (c := cX12_cardOf) [(.ifCond .ne 10, 3), (.aload_n 0, 1), (.bipush 8, 2), (.invokevirtual 284, 3), (.ireturn, 1), (.aload_n 0, 1), (.getfield 35, 3), (.iload_n 1, 1)] 49 (by decide +kernel)
theorem dX12_cardOf_49 : decode cX12_cardOf 49 = .ok (.ifCond .ne 10, 3) := eX12_cardOf_49.1
theorem dX12_cardOf_52 : decode cX12_cardOf 52 = .ok (.aload_n 0, 1) := eX12_cardOf_49.2.1
theorem dX12_cardOf_53 : decode cX12_cardOf 53 = .ok (.bipush 8, 2) := eX12_cardOf_49.2.2.1
theorem dX12_cardOf_55 : decode cX12_cardOf 55 = .ok (.invokevirtual 284, 3) := eX12_cardOf_49.2.2.2.1
theorem dX12_cardOf_58 : decode cX12_cardOf 58 = .ok (.ireturn, 1) := eX12_cardOf_49.2.2.2.2.1
theorem dX12_cardOf_59 : decode cX12_cardOf 59 = .ok (.aload_n 0, 1) := eX12_cardOf_49.2.2.2.2.2.1
theorem dX12_cardOf_60 : decode cX12_cardOf 60 = .ok (.getfield 35, 3) := eX12_cardOf_49.2.2.2.2.2.2.1
theorem dX12_cardOf_63 : decode cX12_cardOf 63 = .ok (.iload_n 1, 1) := eX12_cardOf_49.2.2.2.2.2.2.2.1
theorem eX12_cardOf_64 : decode cX12_cardOf 64 = .ok (.invokestatic 279, 3) ∧ decode cX12_cardOf 67 = .ok (.iconst 3, 1) ∧ decode cX12_cardOf 68 = .ok (.iadd, 1) ∧ decode cX12_cardOf 69 = .ok (.iload_n 2, 1) ∧ decode cX12_cardOf 70 = .ok (.iadd, 1) ∧ decode cX12_cardOf 71 = .ok (.iaload, 1) ∧ decode cX12_cardOf 72 = .ok (.ireturn, 1) ∧ True := dkl_ok (c := cX12_cardOf) [(.invokestatic 279, 3), (.iconst 3, 1), (.iadd, 1), (.iload_n 2, 1), (.iadd, 1), (.iaload, 1), (.ireturn, 1)] 64 (by decide +kernel)
theorem dX12_cardOf_64 : decode cX12_cardOf 64 = .ok (.invokestatic 279, 3) := eX12_cardOf_64.1
theorem dX12_cardOf_67 : decode cX12_cardOf 67 = .ok (.iconst 3, 1) := eX12_cardOf_64.2.1
theorem dX12_cardOf_68 : decode cX12_cardOf 68 = .ok (.iadd, 1) := eX12_cardOf_64.2.2.1
theorem dX12_cardOf_69 : decode cX12_cardOf 69 = .ok (.iload_n 2, 1) := eX12_cardOf_64.2.2.2.1
theorem dX12_cardOf_70 : decode cX12_cardOf 70 = .ok (.iadd, 1) := eX12_cardOf_64.2.2.2.2.1
theorem dX12_cardOf_71 : decode cX12_cardOf 71 = .ok (.iaload, 1) := eX12_cardOf_64.2.2.2.2.2.1
theorem dX12_cardOf_72 : decode cX12_cardOf 72 = .ok (.ireturn, 1) := eX12_cardOf_64.2.2.2.2.2.2.1
theorem eX12_copyHand_0 : decode cX12_copyHand 0 = .ok (.aload_n 0, 1) ∧ decode cX12_copyHand 1 = .ok (.iconst 0, 1) ∧ decode cX12_copyHand 2 = .ok (.putfield 59, 3) ∧ decode cX12_copyHand 5 = .ok (.aload_n 0, 1) ∧ decode cX12_copyHand 6 = .ok (.iconst 0, 1) ∧ decode cX12_copyHand 7 = .ok (.putfield 62, 3) ∧ decode cX12_copyHand 10 = .ok (.aload_n 0, 1) ∧ decode cX12_copyHand 11 = .ok (.iload_n 2, 1) ∧ True := dkl_ok (c := cX12_copyHand) [(.aload_n 0, 1), (.iconst 0, 1), (.putfield 59, 3), (.aload_n 0, 1), (.iconst 0, 1), (.putfield 62, 3), (.aload_n 0, 1), (.iload_n 2, 1)] 0 (by decide +kernel)
theorem dX12_copyHand_0 : decode cX12_copyHand 0 = .ok (.aload_n 0, 1) := eX12_copyHand_0.1
theorem dX12_copyHand_1 : decode cX12_copyHand 1 = .ok (.iconst 0, 1) := eX12_copyHand_0.2.1
theorem dX12_copyHand_2 : decode cX12_copyHand 2 = .ok (.putfield 59, 3) := eX12_copyHand_0.2.2.1
theorem dX12_copyHand_5 : decode cX12_copyHand 5 = .ok (.aload_n 0, 1) := eX12_copyHand_0.2.2.2.1
theorem dX12_copyHand_6 : decode cX12_copyHand 6 = .ok (.iconst 0, 1) := eX12_copyHand_0.2.2.2.2.1
theorem dX12_copyHand_7 : decode cX12_copyHand 7 = .ok (.putfield 62, 3) := eX12_copyHand_0.2.2.2.2.2.1
theorem dX12_copyHand_10 : decode cX12_copyHand 10 = .ok (.aload_n 0, 1) := eX12_copyHand_0.2.2.2.2.2.2.1
theorem dX12_copyHand_11 : decode cX12_copyHand 11 = .ok (.iload_n 2, 1) := eX12_copyHand_0.2.2.2.2.2.2.2.1
theorem eX12_copyHand_12 : decode cX12_copyHand 12 = .ok (.invokevirtual 308, 3) ∧ decode cX12_copyHand 15 = .ok (.ifCond .ne 9, 3) ∧ decode cX12_copyHand 18 = .ok (.aload_n 0, 1) ∧ decode cX12_copyHand 19 = .ok (.iconst 1, 1) ∧ decode cX12_copyHand 20 = .ok (.invokevirtual 284, 3) ∧ decode cX12_copyHand 23 = .ok (.ireturn, 1) ∧ decode cX12_copyHand 24 = .ok (.aload_n 0, 1) ∧ decode cX12_copyHand 25 = .ok (.getfield 17, 3) ∧ True := dkl_ok (c := cX12_copyHand) [(.invokevirtual 308, 3), (.ifCond .ne 9, 3), (.aload_n 0, 1), (.iconst 1, 1), (.invokevirtual 284, 3), (.ireturn, 1), (.aload_n 0, 1), (.getfield 17, 3)] 12 (by decide +kernel)
theorem dX12_copyHand_12 : decode cX12_copyHand 12 = .ok (.invokevirtual 308, 3) := eX12_copyHand_12.1
theorem dX12_copyHand_15 : decode cX12_copyHand 15 = .ok (.ifCond .ne 9, 3) := eX12_copyHand_12.2.1
theorem dX12_copyHand_18 : decode cX12_copyHand 18 = .ok (.aload_n 0, 1) := eX12_copyHand_12.2.2.1
theorem dX12_copyHand_19 : decode cX12_copyHand 19 = .ok (.iconst 1, 1) := eX12_copyHand_12.2.2.2.1
theorem dX12_copyHand_20 : decode cX12_copyHand 20 = .ok (.invokevirtual 284, 3) := eX12_copyHand_12.2.2.2.2.1
theorem dX12_copyHand_23 : decode cX12_copyHand 23 = .ok (.ireturn, 1) := eX12_copyHand_12.2.2.2.2.2.1
theorem dX12_copyHand_24 : decode cX12_copyHand 24 = .ok (.aload_n 0, 1) := eX12_copyHand_12.2.2.2.2.2.2.1
theorem dX12_copyHand_25 : decode cX12_copyHand 25 = .ok (.getfield 17, 3) := eX12_copyHand_12.2.2.2.2.2.2.2.1
theorem eX12_copyHand_28 : decode cX12_copyHand 28 = .ok (.iload_n 2, 1) ∧ decode cX12_copyHand 29 = .ok (.iaload, 1) ∧ decode cX12_copyHand 30 = .ok (.ifCond .ge 9, 3) ∧ decode cX12_copyHand 33 = .ok (.aload_n 0, 1) ∧ decode cX12_copyHand 34 = .ok (.iconst 3, 1) ∧ decode cX12_copyHand 35 = .ok (.invokevirtual 284, 3) ∧ decode cX12_copyHand 38 = .ok (.ireturn, 1) ∧ decode cX12_copyHand 39 = .ok (.aload_n 0, 1) ∧ True := dkl_ok (c := cX12_copyHand) [(.iload_n 2, 1), (.iaload, 1), (.ifCond .ge 9, 3), (.aload_n 0, 1), (.iconst 3, 1), (.invokevirtual 284, 3), (.ireturn, 1), (.aload_n 0, 1)] 28 (by decide +kernel)
theorem dX12_copyHand_28 : decode cX12_copyHand 28 = .ok (.iload_n 2, 1) := eX12_copyHand_28.1
theorem dX12_copyHand_29 : decode cX12_copyHand 29 = .ok (.iaload, 1) := eX12_copyHand_28.2.1
theorem dX12_copyHand_30 : decode cX12_copyHand 30 = .ok (.ifCond .ge 9, 3) := eX12_copyHand_28.2.2.1
theorem dX12_copyHand_33 : decode cX12_copyHand 33 = .ok (.aload_n 0, 1) := eX12_copyHand_28.2.2.2.1
theorem dX12_copyHand_34 : decode cX12_copyHand 34 = .ok (.iconst 3, 1) := eX12_copyHand_28.2.2.2.2.1
theorem dX12_copyHand_35 : decode cX12_copyHand 35 = .ok (.invokevirtual 284, 3) := eX12_copyHand_28.2.2.2.2.2.1
theorem dX12_copyHand_38 : decode cX12_copyHand 38 = .ok (.ireturn, 1) := eX12_copyHand_28.2.2.2.2.2.2.1
theorem dX12_copyHand_39 : decode cX12_copyHand 39 = .ok (.aload_n 0, 1) := eX12_copyHand_28.2.2.2.2.2.2.2.1
theorem eX12_copyHand_40 : decode cX12_copyHand 40 = .ok (.iload_n 1, 1) ∧ decode cX12_copyHand 41 = .ok (.invokevirtual 290, 3) ∧ decode cX12_copyHand 44 = .ok (.ifCond .ne 9, 3) ∧ decode cX12_copyHand 47 = .ok (.aload_n 0, 1) ∧ decode cX12_copyHand 48 = .ok (.iconst 2, 1) ∧ decode cX12_copyHand 49 = .ok (.invokevirtual 284, 3) ∧ decode cX12_copyHand 52 = .ok (.ireturn, 1) ∧ decode cX12_copyHand 53 = .ok (.aload_n 0, 1) ∧ True := dkl_ok (c := cX12_copyHand) [(.iload_n 1, 1), (.invokevirtual 290, 3), (.ifCond .ne 9, 3), (.aload_n 0, 1), (.iconst 2, 1), (.invokevirtual 284, 3), (.ireturn, 1), (.aload_n 0, 1)] 40 (by decide +kernel)
theorem dX12_copyHand_40 : decode cX12_copyHand 40 = .ok (.iload_n 1, 1) := eX12_copyHand_40.1
theorem dX12_copyHand_41 : decode cX12_copyHand 41 = .ok (.invokevirtual 290, 3) := eX12_copyHand_40.2.1
theorem dX12_copyHand_44 : decode cX12_copyHand 44 = .ok (.ifCond .ne 9, 3) := eX12_copyHand_40.2.2.1
theorem dX12_copyHand_47 : decode cX12_copyHand 47 = .ok (.aload_n 0, 1) := eX12_copyHand_40.2.2.2.1
theorem dX12_copyHand_48 : decode cX12_copyHand 48 = .ok (.iconst 2, 1) := eX12_copyHand_40.2.2.2.2.1
theorem dX12_copyHand_49 : decode cX12_copyHand 49 = .ok (.invokevirtual 284, 3) := eX12_copyHand_40.2.2.2.2.2.1
theorem dX12_copyHand_52 : decode cX12_copyHand 52 = .ok (.ireturn, 1) := eX12_copyHand_40.2.2.2.2.2.2.1
theorem dX12_copyHand_53 : decode cX12_copyHand 53 = .ok (.aload_n 0, 1) := eX12_copyHand_40.2.2.2.2.2.2.2.1
theorem eX12_copyHand_54 : decode cX12_copyHand 54 = .ok (.getfield 17, 3) ∧ decode cX12_copyHand 57 = .ok (.iload_n 2, 1) ∧ decode cX12_copyHand 58 = .ok (.iaload, 1) ∧ decode cX12_copyHand 59 = .ok (.aload_n 0, 1) ∧ decode cX12_copyHand 60 = .ok (.getfield 35, 3) ∧ decode cX12_copyHand 63 = .ok (.iconst 0, 1) ∧ decode cX12_copyHand 64 = .ok (.iaload, 1) ∧ decode cX12_copyHand 65 = .ok (.if_icmp .ge 9, 3) ∧ True := dkl_ok (c := cX12_copyHand) [(.getfield 17, 3), (.iload_n 2, 1), (.iaload, 1), (.aload_n 0, 1), (.getfield 35, 3), (.iconst 0, 1), (.iaload, 1), (.if_icmp .ge 9, 3)] 54 (by decide +kernel)
theorem dX12_copyHand_54 : decode cX12_copyHand 54 = .ok (.getfield 17, 3) := eX12_copyHand_54.1
theorem dX12_copyHand_57 : decode cX12_copyHand 57 = .ok (.iload_n 2, 1) := eX12_copyHand_54.2.1
theorem dX12_copyHand_58 : decode cX12_copyHand 58 = .ok (.iaload, 1) := eX12_copyHand_54.2.2.1
theorem dX12_copyHand_59 : decode cX12_copyHand 59 = .ok (.aload_n 0, 1) := eX12_copyHand_54.2.2.2.1
theorem dX12_copyHand_60 : decode cX12_copyHand 60 = .ok (.getfield 35, 3) := eX12_copyHand_54.2.2.2.2.1
theorem dX12_copyHand_63 : decode cX12_copyHand 63 = .ok (.iconst 0, 1) := eX12_copyHand_54.2.2.2.2.2.1
theorem dX12_copyHand_64 : decode cX12_copyHand 64 = .ok (.iaload, 1) := eX12_copyHand_54.2.2.2.2.2.2.1
theorem dX12_copyHand_65 : decode cX12_copyHand 65 = .ok (.if_icmp .ge 9, 3) := eX12_copyHand_54.2.2.2.2.2.2.2.1
theorem eX12_copyHand_68 : decode cX12_copyHand 68 = .ok (.aload_n 0, 1) ∧ decode cX12_copyHand 69 = .ok (.iconst 4, 1) ∧ decode cX12_copyHand 70 = .ok (.invokevirtual 284, 3) ∧ decode cX12_copyHand 73 = .ok (.ireturn, 1) ∧ decode cX12_copyHand 74 = .ok (.iconst 0, 1) ∧ decode cX12_copyHand 75 = .ok (.istore_n 3, 1) ∧ decode cX12_copyHand 76 = .ok (.iload_n 3, 1) ∧ decode cX12_copyHand 77 = .ok (.aload_n 0, 1) ∧ True := dkl_ok (c := cX12_copyHand) [(.aload_n 0, 1), (.iconst 4, 1), (.invokevirtual 284, 3), (.ireturn, 1), (.iconst 0, 1), (.istore_n 3, 1), (.iload_n 3, 1), (.aload_n 0, 1)] 68 (by decide +kernel)
theorem dX12_copyHand_68 : decode cX12_copyHand 68 = .ok (.aload_n 0, 1) := eX12_copyHand_68.1
theorem dX12_copyHand_69 : decode cX12_copyHand 69 = .ok (.iconst 4, 1) := eX12_copyHand_68.2.1
theorem dX12_copyHand_70 : decode cX12_copyHand 70 = .ok (.invokevirtual 284, 3) := eX12_copyHand_68.2.2.1
theorem dX12_copyHand_73 : decode cX12_copyHand 73 = .ok (.ireturn, 1) := eX12_copyHand_68.2.2.2.1
theorem dX12_copyHand_74 : decode cX12_copyHand 74 = .ok (.iconst 0, 1) := eX12_copyHand_68.2.2.2.2.1
theorem dX12_copyHand_75 : decode cX12_copyHand 75 = .ok (.istore_n 3, 1) := eX12_copyHand_68.2.2.2.2.2.1
theorem dX12_copyHand_76 : decode cX12_copyHand 76 = .ok (.iload_n 3, 1) := eX12_copyHand_68.2.2.2.2.2.2.1
theorem dX12_copyHand_77 : decode cX12_copyHand 77 = .ok (.aload_n 0, 1) := eX12_copyHand_68.2.2.2.2.2.2.2.1
theorem eX12_copyHand_78 : decode cX12_copyHand 78 = .ok (.getfield 35, 3) ∧ decode cX12_copyHand 81 = .ok (.iconst 0, 1) ∧ decode cX12_copyHand 82 = .ok (.iaload, 1) ∧ decode cX12_copyHand 83 = .ok (.if_icmp .ge 27, 3) ∧ decode cX12_copyHand 86 = .ok (.aload_n 0, 1) ∧ decode cX12_copyHand 87 = .ok (.getfield 20, 3) ∧ decode cX12_copyHand 90 = .ok (.bipush 60, 2) ∧ decode cX12_copyHand 92 = .ok (.iload_n 2, 1) ∧ True := dkl_ok (c := cX12_copyHand) [(.getfield 35, 3), (.iconst 0, 1), (.iaload, 1), (.if_icmp .ge 27, 3), (.aload_n 0, 1), (.getfield 20, 3), (.bipush 60, 2), (.iload_n 2, 1)] 78 (by decide +kernel)
theorem dX12_copyHand_78 : decode cX12_copyHand 78 = .ok (.getfield 35, 3) := eX12_copyHand_78.1
theorem dX12_copyHand_81 : decode cX12_copyHand 81 = .ok (.iconst 0, 1) := eX12_copyHand_78.2.1
theorem dX12_copyHand_82 : decode cX12_copyHand 82 = .ok (.iaload, 1) := eX12_copyHand_78.2.2.1
theorem dX12_copyHand_83 : decode cX12_copyHand 83 = .ok (.if_icmp .ge 27, 3) := eX12_copyHand_78.2.2.2.1
theorem dX12_copyHand_86 : decode cX12_copyHand 86 = .ok (.aload_n 0, 1) := eX12_copyHand_78.2.2.2.2.1
theorem dX12_copyHand_87 : decode cX12_copyHand 87 = .ok (.getfield 20, 3) := eX12_copyHand_78.2.2.2.2.2.1
theorem dX12_copyHand_90 : decode cX12_copyHand 90 = .ok (.bipush 60, 2) := eX12_copyHand_78.2.2.2.2.2.2.1
theorem dX12_copyHand_92 : decode cX12_copyHand 92 = .ok (.iload_n 2, 1) := eX12_copyHand_78.2.2.2.2.2.2.2.1
theorem eX12_copyHand_93 : decode cX12_copyHand 93 = .ok (.imul, 1) ∧ decode cX12_copyHand 94 = .ok (.iload_n 3, 1) ∧ decode cX12_copyHand 95 = .ok (.iadd, 1) ∧ decode cX12_copyHand 96 = .ok (.aload_n 0, 1) ∧ decode cX12_copyHand 97 = .ok (.iload_n 1, 1) ∧ decode cX12_copyHand 98 = .ok (.iload_n 3, 1) ∧ decode cX12_copyHand 99 = .ok (.invokevirtual 276, 3) ∧ decode cX12_copyHand 102 = .ok (.i2l, 1) ∧ True := dkl_ok (c := cX12_copyHand) [(.imul, 1), (.iload_n 3, 1), (.iadd, 1), (.aload_n 0, 1), (.iload_n 1, 1), (.iload_n 3, 1), (.invokevirtual 276, 3), (.i2l, 1)] 93 (by decide +kernel)
theorem dX12_copyHand_93 : decode cX12_copyHand 93 = .ok (.imul, 1) := eX12_copyHand_93.1
theorem dX12_copyHand_94 : decode cX12_copyHand 94 = .ok (.iload_n 3, 1) := eX12_copyHand_93.2.1
theorem dX12_copyHand_95 : decode cX12_copyHand 95 = .ok (.iadd, 1) := eX12_copyHand_93.2.2.1
theorem dX12_copyHand_96 : decode cX12_copyHand 96 = .ok (.aload_n 0, 1) := eX12_copyHand_93.2.2.2.1
theorem dX12_copyHand_97 : decode cX12_copyHand 97 = .ok (.iload_n 1, 1) := eX12_copyHand_93.2.2.2.2.1
theorem dX12_copyHand_98 : decode cX12_copyHand 98 = .ok (.iload_n 3, 1) := eX12_copyHand_93.2.2.2.2.2.1
theorem dX12_copyHand_99 : decode cX12_copyHand 99 = .ok (.invokevirtual 276, 3) := eX12_copyHand_93.2.2.2.2.2.2.1
theorem dX12_copyHand_102 : decode cX12_copyHand 102 = .ok (.i2l, 1) := eX12_copyHand_93.2.2.2.2.2.2.2.1
theorem eX12_copyHand_103 : decode cX12_copyHand 103 = .ok (.lastore, 1) ∧ decode cX12_copyHand 104 = .ok (.iinc 3 1, 3) ∧ decode cX12_copyHand 107 = .ok (.goto (-31), 3) ∧ decode cX12_copyHand 110 = .ok (.aload_n 0, 1) ∧ decode cX12_copyHand 111 = .ok (.getfield 35, 3) ∧ decode cX12_copyHand 114 = .ok (.iconst 0, 1) ∧ decode cX12_copyHand 115 = .ok (.iaload, 1) ∧ decode cX12_copyHand 116 = .ok (.ireturn, 1) ∧ True := dkl_ok (c := cX12_copyHand) [(.lastore, 1), (.iinc 3 1, 3), (.goto (-31), 3), (.aload_n 0, 1), (.getfield 35, 3), (.iconst 0, 1), (.iaload, 1), (.ireturn, 1)] 103 (by decide +kernel)
theorem dX12_copyHand_103 : decode cX12_copyHand 103 = .ok (.lastore, 1) := eX12_copyHand_103.1
theorem dX12_copyHand_104 : decode cX12_copyHand 104 = .ok (.iinc 3 1, 3) := eX12_copyHand_103.2.1
theorem dX12_copyHand_107 : decode cX12_copyHand 107 = .ok (.goto (-31), 3) := eX12_copyHand_103.2.2.1
theorem dX12_copyHand_110 : decode cX12_copyHand 110 = .ok (.aload_n 0, 1) := eX12_copyHand_103.2.2.2.1
theorem dX12_copyHand_111 : decode cX12_copyHand 111 = .ok (.getfield 35, 3) := eX12_copyHand_103.2.2.2.2.1
theorem dX12_copyHand_114 : decode cX12_copyHand 114 = .ok (.iconst 0, 1) := eX12_copyHand_103.2.2.2.2.2.1
theorem dX12_copyHand_115 : decode cX12_copyHand 115 = .ok (.iaload, 1) := eX12_copyHand_103.2.2.2.2.2.2.1
theorem dX12_copyHand_116 : decode cX12_copyHand 116 = .ok (.ireturn, 1) := eX12_copyHand_103.2.2.2.2.2.2.2.1
theorem eX12_nextKind_0 : decode cX12_nextKind 0 = .ok (.aload_n 0, 1) ∧ decode cX12_nextKind 1 = .ok (.getfield 35, 3) ∧ decode cX12_nextKind 4 = .ok (.iconst 0, 1) ∧ decode cX12_nextKind 5 = .ok (.iaload, 1) ∧ decode cX12_nextKind 6 = .ok (.istore_n 2, 1) ∧ decode cX12_nextKind 7 = .ok (.aload_n 0, 1) ∧ decode cX12_nextKind 8 = .ok (.getfield 35, 3) ∧ decode cX12_nextKind 11 = .ok (.iconst 3, 1) ∧ True := dkl_ok (c := cX12_nextKind) [(.aload_n 0, 1), (.getfield 35, 3), (.iconst 0, 1), (.iaload, 1), (.istore_n 2, 1), (.aload_n 0, 1), (.getfield 35, 3), (.iconst 3, 1)] 0 (by decide +kernel)
theorem dX12_nextKind_0 : decode cX12_nextKind 0 = .ok (.aload_n 0, 1) := eX12_nextKind_0.1
theorem dX12_nextKind_1 : decode cX12_nextKind 1 = .ok (.getfield 35, 3) := eX12_nextKind_0.2.1
theorem dX12_nextKind_4 : decode cX12_nextKind 4 = .ok (.iconst 0, 1) := eX12_nextKind_0.2.2.1
theorem dX12_nextKind_5 : decode cX12_nextKind 5 = .ok (.iaload, 1) := eX12_nextKind_0.2.2.2.1
theorem dX12_nextKind_6 : decode cX12_nextKind 6 = .ok (.istore_n 2, 1) := eX12_nextKind_0.2.2.2.2.1
theorem dX12_nextKind_7 : decode cX12_nextKind 7 = .ok (.aload_n 0, 1) := eX12_nextKind_0.2.2.2.2.2.1
theorem dX12_nextKind_8 : decode cX12_nextKind 8 = .ok (.getfield 35, 3) := eX12_nextKind_0.2.2.2.2.2.2.1
theorem dX12_nextKind_11 : decode cX12_nextKind 11 = .ok (.iconst 3, 1) := eX12_nextKind_0.2.2.2.2.2.2.2.1
theorem eX12_nextKind_12 : decode cX12_nextKind 12 = .ok (.iaload, 1) ∧ decode cX12_nextKind 13 = .ok (.ifCond .eq 17, 3) ∧ decode cX12_nextKind 16 = .ok (.aload_n 0, 1) ∧ decode cX12_nextKind 17 = .ok (.getfield 35, 3) ∧ decode cX12_nextKind 20 = .ok (.iconst 3, 1) ∧ decode cX12_nextKind 21 = .ok (.iaload, 1) ∧ decode cX12_nextKind 22 = .ok (.iconst 1, 1) ∧ decode cX12_nextKind 23 = .ok (.if_icmp .eq 18, 3) ∧ True := dkl_ok (c := cX12_nextKind) [(.iaload, 1), (.ifCond .eq 17, 3), (.aload_n 0, 1), (.getfield 35, 3), (.iconst 3, 1), (.iaload, 1), (.iconst 1, 1), (.if_icmp .eq 18, 3)] 12 (by decide +kernel)
theorem dX12_nextKind_12 : decode cX12_nextKind 12 = .ok (.iaload, 1) := eX12_nextKind_12.1
theorem dX12_nextKind_13 : decode cX12_nextKind 13 = .ok (.ifCond .eq 17, 3) := eX12_nextKind_12.2.1
theorem dX12_nextKind_16 : decode cX12_nextKind 16 = .ok (.aload_n 0, 1) := eX12_nextKind_12.2.2.1
theorem dX12_nextKind_17 : decode cX12_nextKind 17 = .ok (.getfield 35, 3) := eX12_nextKind_12.2.2.2.1
theorem dX12_nextKind_20 : decode cX12_nextKind 20 = .ok (.iconst 3, 1) := eX12_nextKind_12.2.2.2.2.1
theorem dX12_nextKind_21 : decode cX12_nextKind 21 = .ok (.iaload, 1) := eX12_nextKind_12.2.2.2.2.2.1
theorem dX12_nextKind_22 : decode cX12_nextKind 22 = .ok (.iconst 1, 1) := eX12_nextKind_12.2.2.2.2.2.2.1
theorem dX12_nextKind_23 : decode cX12_nextKind 23 = .ok (.if_icmp .eq 18, 3) := eX12_nextKind_12.2.2.2.2.2.2.2.1
theorem eX12_nextKind_26 : decode cX12_nextKind 26 = .ok (.iload_n 1, 1) ∧ decode cX12_nextKind 27 = .ok (.ifCond .ne 14, 3) ∧ decode cX12_nextKind 30 = .ok (.aload_n 0, 1) ∧ decode cX12_nextKind 31 = .ok (.getfield 35, 3) ∧ decode cX12_nextKind 34 = .ok (.iconst 5, 1) ∧ decode cX12_nextKind 35 = .ok (.iaload, 1) ∧ decode cX12_nextKind 36 = .ok (.iconst 1, 1) ∧ decode cX12_nextKind 37 = .ok (.iadd, 1) ∧ True := dkl_ok (c := cX12_nextKind) [(.iload_n 1, 1), (.ifCond .ne 14, 3), (.aload_n 0, 1), (.getfield 35, 3), (.iconst 5, 1), (.iaload, 1), (.iconst 1, 1), (.iadd, 1)] 26 (by decide +kernel)
theorem dX12_nextKind_26 : decode cX12_nextKind 26 = .ok (.iload_n 1, 1) := eX12_nextKind_26.1
theorem dX12_nextKind_27 : decode cX12_nextKind 27 = .ok (.ifCond .ne 14, 3) := eX12_nextKind_26.2.1
theorem dX12_nextKind_30 : decode cX12_nextKind 30 = .ok (.aload_n 0, 1) := eX12_nextKind_26.2.2.1
theorem dX12_nextKind_31 : decode cX12_nextKind 31 = .ok (.getfield 35, 3) := eX12_nextKind_26.2.2.2.1
theorem dX12_nextKind_34 : decode cX12_nextKind 34 = .ok (.iconst 5, 1) := eX12_nextKind_26.2.2.2.2.1
theorem dX12_nextKind_35 : decode cX12_nextKind 35 = .ok (.iaload, 1) := eX12_nextKind_26.2.2.2.2.2.1
theorem dX12_nextKind_36 : decode cX12_nextKind 36 = .ok (.iconst 1, 1) := eX12_nextKind_26.2.2.2.2.2.2.1
theorem dX12_nextKind_37 : decode cX12_nextKind 37 = .ok (.iadd, 1) := eX12_nextKind_26.2.2.2.2.2.2.2.1
theorem eX12_nextKind_38 : decode cX12_nextKind 38 = .ok (.iload_n 2, 1) ∧ decode cX12_nextKind 39 = .ok (.irem, 1) ∧ decode cX12_nextKind 40 = .ok (.ireturn, 1) ∧ decode cX12_nextKind 41 = .ok (.aload_n 0, 1) ∧ decode cX12_nextKind 42 = .ok (.getfield 35, 3) ∧ decode cX12_nextKind 45 = .ok (.iconst 3, 1) ∧ decode cX12_nextKind 46 = .ok (.iaload, 1) ∧ decode cX12_nextKind 47 = .ok (.iconst 1, 1) ∧ True := dkl_ok (c := cX12_nextKind) [(.iload_n 2, 1), (.irem, 1), (.ireturn, 1), (.aload_n 0, 1), (.getfield 35, 3), (.iconst 3, 1), (.iaload, 1), (.iconst 1, 1)] 38 (by decide +kernel)
theorem dX12_nextKind_38 : decode cX12_nextKind 38 = .ok (.iload_n 2, 1) := eX12_nextKind_38.1
theorem dX12_nextKind_39 : decode cX12_nextKind 39 = .ok (.irem, 1) := eX12_nextKind_38.2.1
theorem dX12_nextKind_40 : decode cX12_nextKind 40 = .ok (.ireturn, 1) := eX12_nextKind_38.2.2.1
theorem dX12_nextKind_41 : decode cX12_nextKind 41 = .ok (.aload_n 0, 1) := eX12_nextKind_38.2.2.2.1
theorem dX12_nextKind_42 : decode cX12_nextKind 42 = .ok (.getfield 35, 3) := eX12_nextKind_38.2.2.2.2.1
theorem dX12_nextKind_45 : decode cX12_nextKind 45 = .ok (.iconst 3, 1) := eX12_nextKind_38.2.2.2.2.2.1
theorem dX12_nextKind_46 : decode cX12_nextKind 46 = .ok (.iaload, 1) := eX12_nextKind_38.2.2.2.2.2.2.1
theorem dX12_nextKind_47 : decode cX12_nextKind 47 = .ok (.iconst 1, 1) := eX12_nextKind_38.2.2.2.2.2.2.2.1
theorem eX12_nextKind_48 : decode cX12_nextKind 48 = .ok (.if_icmp .ne 18, 3) ∧ decode cX12_nextKind 51 = .ok (.aload_n 0, 1) ∧ decode cX12_nextKind 52 = .ok (.getfield 35, 3) ∧ decode cX12_nextKind 55 = .ok (.iconst 5, 1) ∧ decode cX12_nextKind 56 = .ok (.iaload, 1) ∧ decode cX12_nextKind 57 = .ok (.iload_n 2, 1) ∧ decode cX12_nextKind 58 = .ok (.iadd, 1) ∧ decode cX12_nextKind 59 = .ok (.iconst 1, 1) ∧ True := dkl_ok (c := cX12_nextKind) [(.if_icmp .ne 18, 3), (.aload_n 0, 1), (.getfield 35, 3), (.iconst 5, 1), (.iaload, 1), (.iload_n 2, 1), (.iadd, 1), (.iconst 1, 1)] 48 (by decide +kernel)
theorem dX12_nextKind_48 : decode cX12_nextKind 48 = .ok (.if_icmp .ne 18, 3) := eX12_nextKind_48.1
theorem dX12_nextKind_51 : decode cX12_nextKind 51 = .ok (.aload_n 0, 1) := eX12_nextKind_48.2.1
theorem dX12_nextKind_52 : decode cX12_nextKind 52 = .ok (.getfield 35, 3) := eX12_nextKind_48.2.2.1
theorem dX12_nextKind_55 : decode cX12_nextKind 55 = .ok (.iconst 5, 1) := eX12_nextKind_48.2.2.2.1
theorem dX12_nextKind_56 : decode cX12_nextKind 56 = .ok (.iaload, 1) := eX12_nextKind_48.2.2.2.2.1
theorem dX12_nextKind_57 : decode cX12_nextKind 57 = .ok (.iload_n 2, 1) := eX12_nextKind_48.2.2.2.2.2.1
theorem dX12_nextKind_58 : decode cX12_nextKind 58 = .ok (.iadd, 1) := eX12_nextKind_48.2.2.2.2.2.2.1
theorem dX12_nextKind_59 : decode cX12_nextKind 59 = .ok (.iconst 1, 1) := eX12_nextKind_48.2.2.2.2.2.2.2.1
theorem eX12_nextKind_60 : decode cX12_nextKind 60 = .ok (.isub, 1) ∧ decode cX12_nextKind 61 = .ok (.iload_n 2, 1) ∧ decode cX12_nextKind 62 = .ok (.irem, 1) ∧ decode cX12_nextKind 63 = .ok (.goto 9, 3) ∧ decode cX12_nextKind 66 = .ok (.aload_n 0, 1) ∧ decode cX12_nextKind 67 = .ok (.getfield 35, 3) ∧ decode cX12_nextKind 70 = .ok (.iconst 5, 1) ∧ decode cX12_nextKind 71 = .ok (.iaload, 1) ∧ True := dkl_ok (c := cX12_nextKind) [(.isub, 1), (.iload_n 2, 1), (.irem, 1), (.goto 9, 3), (.aload_n 0, 1), (.getfield 35, 3), (.iconst 5, 1), (.iaload, 1)] 60 (by decide +kernel)
theorem dX12_nextKind_60 : decode cX12_nextKind 60 = .ok (.isub, 1) := eX12_nextKind_60.1
theorem dX12_nextKind_61 : decode cX12_nextKind 61 = .ok (.iload_n 2, 1) := eX12_nextKind_60.2.1
theorem dX12_nextKind_62 : decode cX12_nextKind 62 = .ok (.irem, 1) := eX12_nextKind_60.2.2.1
theorem dX12_nextKind_63 : decode cX12_nextKind 63 = .ok (.goto 9, 3) := eX12_nextKind_60.2.2.2.1
theorem dX12_nextKind_66 : decode cX12_nextKind 66 = .ok (.aload_n 0, 1) := eX12_nextKind_60.2.2.2.2.1
theorem dX12_nextKind_67 : decode cX12_nextKind 67 = .ok (.getfield 35, 3) := eX12_nextKind_60.2.2.2.2.2.1
theorem dX12_nextKind_70 : decode cX12_nextKind 70 = .ok (.iconst 5, 1) := eX12_nextKind_60.2.2.2.2.2.2.1
theorem dX12_nextKind_71 : decode cX12_nextKind 71 = .ok (.iaload, 1) := eX12_nextKind_60.2.2.2.2.2.2.2.1
theorem eX12_nextKind_72 : decode cX12_nextKind 72 = .ok (.ireturn, 1) ∧ True := dkl_ok (c := cX12_nextKind) [(.ireturn, 1)] 72 (by decide +kernel)
theorem dX12_nextKind_72 : decode cX12_nextKind 72 = .ok (.ireturn, 1) := eX12_nextKind_72.1
theorem eX12_behindOf_0 : decode cX12_behindOf 0 = .ok (.iload_n 1, 1) ∧ decode cX12_behindOf 1 = .ok (.iconst 1, 1) ∧ decode cX12_behindOf 2 = .ok (.iadd, 1) ∧ decode cX12_behindOf 3 = .ok (.aload_n 0, 1) ∧ decode cX12_behindOf 4 = .ok (.getfield 35, 3) ∧ decode cX12_behindOf 7 = .ok (.iconst 2, 1) ∧ decode cX12_behindOf 8 = .ok (.iaload, 1) ∧ decode cX12_behindOf 9 = .ok (.irem, 1) ∧ True := dkl_ok (c := cX12_behindOf) [(.iload_n 1, 1), (.iconst 1, 1), (.iadd, 1), (.aload_n 0, 1), (.getfield 35, 3), (.iconst 2, 1), (.iaload, 1), (.irem, 1)] 0 (by decide +kernel)
theorem dX12_behindOf_0 : decode cX12_behindOf 0 = .ok (.iload_n 1, 1) := eX12_behindOf_0.1
theorem dX12_behindOf_1 : decode cX12_behindOf 1 = .ok (.iconst 1, 1) := eX12_behindOf_0.2.1
theorem dX12_behindOf_2 : decode cX12_behindOf 2 = .ok (.iadd, 1) := eX12_behindOf_0.2.2.1
theorem dX12_behindOf_3 : decode cX12_behindOf 3 = .ok (.aload_n 0, 1) := eX12_behindOf_0.2.2.2.1
theorem dX12_behindOf_4 : decode cX12_behindOf 4 = .ok (.getfield 35, 3) := eX12_behindOf_0.2.2.2.2.1
theorem dX12_behindOf_7 : decode cX12_behindOf 7 = .ok (.iconst 2, 1) := eX12_behindOf_0.2.2.2.2.2.1
theorem dX12_behindOf_8 : decode cX12_behindOf 8 = .ok (.iaload, 1) := eX12_behindOf_0.2.2.2.2.2.2.1
theorem dX12_behindOf_9 : decode cX12_behindOf 9 = .ok (.irem, 1) := eX12_behindOf_0.2.2.2.2.2.2.2.1
theorem eX12_behindOf_10 : decode cX12_behindOf 10 = .ok (.ireturn, 1) ∧ True := dkl_ok (c := cX12_behindOf) [(.ireturn, 1)] 10 (by decide +kernel)
theorem dX12_behindOf_10 : decode cX12_behindOf 10 = .ok (.ireturn, 1) := eX12_behindOf_10.1
theorem eX12_laysDown_0 : decode cX12_laysDown 0 = .ok (.aload_n 0, 1) ∧ decode cX12_laysDown 1 = .ok (.getfield 35, 3) ∧ decode cX12_laysDown 4 = .ok (.bipush 9, 2) ∧ decode cX12_laysDown 6 = .ok (.iaload, 1) ∧ decode cX12_laysDown 7 = .ok (.invokestatic 279, 3) ∧ decode cX12_laysDown 10 = .ok (.istore_n 3, 1) ∧ decode cX12_laysDown 11 = .ok (.aload_n 0, 1) ∧ decode cX12_laysDown 12 = .ok (.getfield 35, 3) ∧ True := dkl_ok (c := cX12_laysDown) [(.aload_n 0, 1), (.getfield 35, 3), (.bipush 9, 2), (.iaload, 1), (.invokestatic 279, 3), (.istore_n 3, 1), (.aload_n 0, 1), (.getfield 35, 3)] 0 (by decide +kernel)
theorem dX12_laysDown_0 : decode cX12_laysDown 0 = .ok (.aload_n 0, 1) := eX12_laysDown_0.1
theorem dX12_laysDown_1 : decode cX12_laysDown 1 = .ok (.getfield 35, 3) := eX12_laysDown_0.2.1
theorem dX12_laysDown_4 : decode cX12_laysDown 4 = .ok (.bipush 9, 2) := eX12_laysDown_0.2.2.1
theorem dX12_laysDown_6 : decode cX12_laysDown 6 = .ok (.iaload, 1) := eX12_laysDown_0.2.2.2.1
theorem dX12_laysDown_7 : decode cX12_laysDown 7 = .ok (.invokestatic 279, 3) := eX12_laysDown_0.2.2.2.2.1
theorem dX12_laysDown_10 : decode cX12_laysDown 10 = .ok (.istore_n 3, 1) := eX12_laysDown_0.2.2.2.2.2.1
theorem dX12_laysDown_11 : decode cX12_laysDown 11 = .ok (.aload_n 0, 1) := eX12_laysDown_0.2.2.2.2.2.2.1
theorem dX12_laysDown_12 : decode cX12_laysDown 12 = .ok (.getfield 35, 3) := eX12_laysDown_0.2.2.2.2.2.2.2.1
theorem eX12_laysDown_15 : decode cX12_laysDown 15 = .ok (.iload_n 3, 1) ∧ decode cX12_laysDown 16 = .ok (.iload_n 1, 1) ∧ decode cX12_laysDown 17 = .ok (.iastore, 1) ∧ decode cX12_laysDown 18 = .ok (.aload_n 0, 1) ∧ decode cX12_laysDown 19 = .ok (.getfield 35, 3) ∧ decode cX12_laysDown 22 = .ok (.iload_n 3, 1) ∧ decode cX12_laysDown 23 = .ok (.iconst 1, 1) ∧ decode cX12_laysDown 24 = .ok (.iadd, 1) ∧ True := dkl_ok (c := cX12_laysDown) [(.iload_n 3, 1), (.iload_n 1, 1), (.iastore, 1), (.aload_n 0, 1), (.getfield 35, 3), (.iload_n 3, 1), (.iconst 1, 1), (.iadd, 1)] 15 (by decide +kernel)
theorem dX12_laysDown_15 : decode cX12_laysDown 15 = .ok (.iload_n 3, 1) := eX12_laysDown_15.1
theorem dX12_laysDown_16 : decode cX12_laysDown 16 = .ok (.iload_n 1, 1) := eX12_laysDown_15.2.1
theorem dX12_laysDown_17 : decode cX12_laysDown 17 = .ok (.iastore, 1) := eX12_laysDown_15.2.2.1
theorem dX12_laysDown_18 : decode cX12_laysDown 18 = .ok (.aload_n 0, 1) := eX12_laysDown_15.2.2.2.1
theorem dX12_laysDown_19 : decode cX12_laysDown 19 = .ok (.getfield 35, 3) := eX12_laysDown_15.2.2.2.2.1
theorem dX12_laysDown_22 : decode cX12_laysDown 22 = .ok (.iload_n 3, 1) := eX12_laysDown_15.2.2.2.2.2.1
theorem dX12_laysDown_23 : decode cX12_laysDown 23 = .ok (.iconst 1, 1) := eX12_laysDown_15.2.2.2.2.2.2.1
theorem dX12_laysDown_24 : decode cX12_laysDown 24 = .ok (.iadd, 1) := eX12_laysDown_15.2.2.2.2.2.2.2.1
theorem eX12_laysDown_25 : decode cX12_laysDown 25 = .ok (.aload_n 0, 1) ∧ decode cX12_laysDown 26 = .ok (.getfield 35, 3) ∧ decode cX12_laysDown 29 = .ok (.iconst 5, 1) ∧ decode cX12_laysDown 30 = .ok (.iaload, 1) ∧ decode cX12_laysDown 31 = .ok (.iastore, 1) ∧ decode cX12_laysDown 32 = .ok (.iconst 0, 1) ∧ decode cX12_laysDown 33 = .ok (.istore 4, 2) ∧ decode cX12_laysDown 35 = .ok (.iconst 0, 1) ∧ True := dkl_ok (c := cX12_laysDown) [(.aload_n 0, 1), (.getfield 35, 3), (.iconst 5, 1), (.iaload, 1), (.iastore, 1), (.iconst 0, 1), (.istore 4, 2), (.iconst 0, 1)] 25 (by decide +kernel)
theorem dX12_laysDown_25 : decode cX12_laysDown 25 = .ok (.aload_n 0, 1) := eX12_laysDown_25.1
theorem dX12_laysDown_26 : decode cX12_laysDown 26 = .ok (.getfield 35, 3) := eX12_laysDown_25.2.1
theorem dX12_laysDown_29 : decode cX12_laysDown 29 = .ok (.iconst 5, 1) := eX12_laysDown_25.2.2.1
theorem dX12_laysDown_30 : decode cX12_laysDown 30 = .ok (.iaload, 1) := eX12_laysDown_25.2.2.2.1
theorem dX12_laysDown_31 : decode cX12_laysDown 31 = .ok (.iastore, 1) := eX12_laysDown_25.2.2.2.2.1
theorem dX12_laysDown_32 : decode cX12_laysDown 32 = .ok (.iconst 0, 1) := eX12_laysDown_25.2.2.2.2.2.1
theorem dX12_laysDown_33 : decode cX12_laysDown 33 = .ok (.istore 4, 2) := eX12_laysDown_25.2.2.2.2.2.2.1
theorem dX12_laysDown_35 : decode cX12_laysDown 35 = .ok (.iconst 0, 1) := eX12_laysDown_25.2.2.2.2.2.2.2.1
theorem eX12_laysDown_36 : decode cX12_laysDown 36 = .ok (.istore 5, 2) ∧ decode cX12_laysDown 38 = .ok (.iload 5, 2) ∧ decode cX12_laysDown 40 = .ok (.bipush 10, 2) ∧ decode cX12_laysDown 42 = .ok (.if_icmp .ge 65, 3) ∧ decode cX12_laysDown 45 = .ok (.iconst 0, 1) ∧ decode cX12_laysDown 46 = .ok (.istore 6, 2) ∧ decode cX12_laysDown 48 = .ok (.iload 6, 2) ∧ decode cX12_laysDown 50 = .ok (.aload_n 2, 1) ∧ True := dkl_ok (c := cX12_laysDown) [(.istore 5, 2), (.iload 5, 2), (.bipush 10, 2), (.if_icmp .ge 65, 3), (.iconst 0, 1), (.istore 6, 2), (.iload 6, 2), (.aload_n 2, 1)] 36 (by decide +kernel)
theorem dX12_laysDown_36 : decode cX12_laysDown 36 = .ok (.istore 5, 2) := eX12_laysDown_36.1
theorem dX12_laysDown_38 : decode cX12_laysDown 38 = .ok (.iload 5, 2) := eX12_laysDown_36.2.1
theorem dX12_laysDown_40 : decode cX12_laysDown 40 = .ok (.bipush 10, 2) := eX12_laysDown_36.2.2.1
theorem dX12_laysDown_42 : decode cX12_laysDown 42 = .ok (.if_icmp .ge 65, 3) := eX12_laysDown_36.2.2.2.1
theorem dX12_laysDown_45 : decode cX12_laysDown 45 = .ok (.iconst 0, 1) := eX12_laysDown_36.2.2.2.2.1
theorem dX12_laysDown_46 : decode cX12_laysDown 46 = .ok (.istore 6, 2) := eX12_laysDown_36.2.2.2.2.2.1
theorem dX12_laysDown_48 : decode cX12_laysDown 48 = .ok (.iload 6, 2) := eX12_laysDown_36.2.2.2.2.2.2.1
theorem dX12_laysDown_50 : decode cX12_laysDown 50 = .ok (.aload_n 2, 1) := eX12_laysDown_36.2.2.2.2.2.2.2.1
theorem eX12_laysDown_51 : decode cX12_laysDown 51 = .ok (.iload 5, 2) ∧ decode cX12_laysDown 53 = .ok (.iaload, 1) ∧ decode cX12_laysDown 54 = .ok (.if_icmp .ge 25, 3) ∧ decode cX12_laysDown 57 = .ok (.aload_n 0, 1) ∧ decode cX12_laysDown 58 = .ok (.getfield 35, 3) ∧ decode cX12_laysDown 61 = .ok (.iload_n 3, 1) ∧ decode cX12_laysDown 62 = .ok (.iconst 3, 1) ∧ decode cX12_laysDown 63 = .ok (.iadd, 1) ∧ True := dkl_ok (c := cX12_laysDown) [(.iload 5, 2), (.iaload, 1), (.if_icmp .ge 25, 3), (.aload_n 0, 1), (.getfield 35, 3), (.iload_n 3, 1), (.iconst 3, 1), (.iadd, 1)] 51 (by decide +kernel)
theorem dX12_laysDown_51 : decode cX12_laysDown 51 = .ok (.iload 5, 2) := eX12_laysDown_51.1
theorem dX12_laysDown_53 : decode cX12_laysDown 53 = .ok (.iaload, 1) := eX12_laysDown_51.2.1
theorem dX12_laysDown_54 : decode cX12_laysDown 54 = .ok (.if_icmp .ge 25, 3) := eX12_laysDown_51.2.2.1
theorem dX12_laysDown_57 : decode cX12_laysDown 57 = .ok (.aload_n 0, 1) := eX12_laysDown_51.2.2.2.1
theorem dX12_laysDown_58 : decode cX12_laysDown 58 = .ok (.getfield 35, 3) := eX12_laysDown_51.2.2.2.2.1
theorem dX12_laysDown_61 : decode cX12_laysDown 61 = .ok (.iload_n 3, 1) := eX12_laysDown_51.2.2.2.2.2.1
theorem dX12_laysDown_62 : decode cX12_laysDown 62 = .ok (.iconst 3, 1) := eX12_laysDown_51.2.2.2.2.2.2.1
theorem dX12_laysDown_63 : decode cX12_laysDown 63 = .ok (.iadd, 1) := eX12_laysDown_51.2.2.2.2.2.2.2.1
theorem eX12_laysDown_64 : decode cX12_laysDown 64 = .ok (.iload 4, 2) ∧ decode cX12_laysDown 66 = .ok (.iadd, 1) ∧ decode cX12_laysDown 67 = .ok (.iload 5, 2) ∧ decode cX12_laysDown 69 = .ok (.iastore, 1) ∧ decode cX12_laysDown 70 = .ok (.iinc 4 1, 3) ∧ decode cX12_laysDown 73 = .ok (.iinc 6 1, 3) ∧ decode cX12_laysDown 76 = .ok (.goto (-28), 3) ∧ decode cX12_laysDown 79 = .ok (.aload_n 0, 1) ∧ True := dkl_ok (c := cX12_laysDown) [(.iload 4, 2), (.iadd, 1), (.iload 5, 2), (.iastore, 1), (.iinc 4 1, 3), (.iinc 6 1, 3), (.goto (-28), 3), (.aload_n 0, 1)] 64 (by decide +kernel)
theorem dX12_laysDown_64 : decode cX12_laysDown 64 = .ok (.iload 4, 2) := eX12_laysDown_64.1
theorem dX12_laysDown_66 : decode cX12_laysDown 66 = .ok (.iadd, 1) := eX12_laysDown_64.2.1
theorem dX12_laysDown_67 : decode cX12_laysDown 67 = .ok (.iload 5, 2) := eX12_laysDown_64.2.2.1
theorem dX12_laysDown_69 : decode cX12_laysDown 69 = .ok (.iastore, 1) := eX12_laysDown_64.2.2.2.1
theorem dX12_laysDown_70 : decode cX12_laysDown 70 = .ok (.iinc 4 1, 3) := eX12_laysDown_64.2.2.2.2.1
theorem dX12_laysDown_73 : decode cX12_laysDown 73 = .ok (.iinc 6 1, 3) := eX12_laysDown_64.2.2.2.2.2.1
theorem dX12_laysDown_76 : decode cX12_laysDown 76 = .ok (.goto (-28), 3) := eX12_laysDown_64.2.2.2.2.2.2.1
theorem dX12_laysDown_79 : decode cX12_laysDown 79 = .ok (.aload_n 0, 1) := eX12_laysDown_64.2.2.2.2.2.2.2.1
theorem eX12_laysDown_80 : decode cX12_laysDown 80 = .ok (.getfield 35, 3) ∧ decode cX12_laysDown 83 = .ok (.bipush 34, 2) ∧ decode cX12_laysDown 85 = .ok (.bipush 10, 2) ∧ decode cX12_laysDown 87 = .ok (.iload_n 1, 1) ∧ decode cX12_laysDown 88 = .ok (.imul, 1) ∧ decode cX12_laysDown 89 = .ok (.iadd, 1) ∧ decode cX12_laysDown 90 = .ok (.iload 5, 2) ∧ decode cX12_laysDown 92 = .ok (.iadd, 1) ∧ True := dkl_ok (c := cX12_laysDown) [(.getfield 35, 3), (.bipush 34, 2), (.bipush 10, 2), (.iload_n 1, 1), (.imul, 1), (.iadd, 1), (.iload 5, 2), (.iadd, 1)] 80 (by decide +kernel)
theorem dX12_laysDown_80 : decode cX12_laysDown 80 = .ok (.getfield 35, 3) := eX12_laysDown_80.1
theorem dX12_laysDown_83 : decode cX12_laysDown 83 = .ok (.bipush 34, 2) := eX12_laysDown_80.2.1
theorem dX12_laysDown_85 : decode cX12_laysDown 85 = .ok (.bipush 10, 2) := eX12_laysDown_80.2.2.1
theorem dX12_laysDown_87 : decode cX12_laysDown 87 = .ok (.iload_n 1, 1) := eX12_laysDown_80.2.2.2.1
theorem dX12_laysDown_88 : decode cX12_laysDown 88 = .ok (.imul, 1) := eX12_laysDown_80.2.2.2.2.1
theorem dX12_laysDown_89 : decode cX12_laysDown 89 = .ok (.iadd, 1) := eX12_laysDown_80.2.2.2.2.2.1
theorem dX12_laysDown_90 : decode cX12_laysDown 90 = .ok (.iload 5, 2) := eX12_laysDown_80.2.2.2.2.2.2.1
theorem dX12_laysDown_92 : decode cX12_laysDown 92 = .ok (.iadd, 1) := eX12_laysDown_80.2.2.2.2.2.2.2.1
theorem eX12_laysDown_93 : decode cX12_laysDown 93 = .ok (.dup2, 1) ∧ decode cX12_laysDown 94 = .ok (.iaload, 1) ∧ decode cX12_laysDown 95 = .ok (.aload_n 2, 1) ∧ decode cX12_laysDown 96 = .ok (.iload 5, 2) ∧ decode cX12_laysDown 98 = .ok (.iaload, 1) ∧ decode cX12_laysDown 99 = .ok (.isub, 1) ∧ decode cX12_laysDown 100 = .ok (.iastore, 1) ∧ decode cX12_laysDown 101 = .ok (.iinc 5 1, 3) ∧ True := dkl_ok (c := cX12_laysDown) [(.dup2, 1), (.iaload, 1), (.aload_n 2, 1), (.iload 5, 2), (.iaload, 1), (.isub, 1), (.iastore, 1), (.iinc 5 1, 3)] 93 (by decide +kernel)
theorem dX12_laysDown_93 : decode cX12_laysDown 93 = .ok (.dup2, 1) := eX12_laysDown_93.1
theorem dX12_laysDown_94 : decode cX12_laysDown 94 = .ok (.iaload, 1) := eX12_laysDown_93.2.1
theorem dX12_laysDown_95 : decode cX12_laysDown 95 = .ok (.aload_n 2, 1) := eX12_laysDown_93.2.2.1
theorem dX12_laysDown_96 : decode cX12_laysDown 96 = .ok (.iload 5, 2) := eX12_laysDown_93.2.2.2.1
theorem dX12_laysDown_98 : decode cX12_laysDown 98 = .ok (.iaload, 1) := eX12_laysDown_93.2.2.2.2.1
theorem dX12_laysDown_99 : decode cX12_laysDown 99 = .ok (.isub, 1) := eX12_laysDown_93.2.2.2.2.2.1
theorem dX12_laysDown_100 : decode cX12_laysDown 100 = .ok (.iastore, 1) := eX12_laysDown_93.2.2.2.2.2.2.1
theorem dX12_laysDown_101 : decode cX12_laysDown 101 = .ok (.iinc 5 1, 3) := eX12_laysDown_93.2.2.2.2.2.2.2.1
theorem eX12_laysDown_104 : decode cX12_laysDown 104 = .ok (.goto (-66), 3) ∧ decode cX12_laysDown 107 = .ok (.aload_n 0, 1) ∧ decode cX12_laysDown 108 = .ok (.getfield 35, 3) ∧ decode cX12_laysDown 111 = .ok (.iload_n 3, 1) ∧ decode cX12_laysDown 112 = .ok (.iconst 2, 1) ∧ decode cX12_laysDown 113 = .ok (.iadd, 1) ∧ decode cX12_laysDown 114 = .ok (.iload 4, 2) ∧ decode cX12_laysDown 116 = .ok (.iastore, 1) ∧ True := dkl_ok (c := cX12_laysDown) [(.goto (-66), 3), (.aload_n 0, 1), (.getfield 35, 3), (.iload_n 3, 1), (.iconst 2, 1), (.iadd, 1), (.iload 4, 2), (.iastore, 1)] 104 (by decide +kernel)
theorem dX12_laysDown_104 : decode cX12_laysDown 104 = .ok (.goto (-66), 3) := eX12_laysDown_104.1
theorem dX12_laysDown_107 : decode cX12_laysDown 107 = .ok (.aload_n 0, 1) := eX12_laysDown_104.2.1
theorem dX12_laysDown_108 : decode cX12_laysDown 108 = .ok (.getfield 35, 3) := eX12_laysDown_104.2.2.1
theorem dX12_laysDown_111 : decode cX12_laysDown 111 = .ok (.iload_n 3, 1) := eX12_laysDown_104.2.2.2.1
theorem dX12_laysDown_112 : decode cX12_laysDown 112 = .ok (.iconst 2, 1) := eX12_laysDown_104.2.2.2.2.1
theorem dX12_laysDown_113 : decode cX12_laysDown 113 = .ok (.iadd, 1) := eX12_laysDown_104.2.2.2.2.2.1
theorem dX12_laysDown_114 : decode cX12_laysDown 114 = .ok (.iload 4, 2) := eX12_laysDown_104.2.2.2.2.2.2.1
theorem dX12_laysDown_116 : decode cX12_laysDown 116 = .ok (.iastore, 1) := eX12_laysDown_104.2.2.2.2.2.2.2.1
theorem eX12_laysDown_117 : decode cX12_laysDown 117 = .ok (.aload_n 0, 1) ∧ decode cX12_laysDown 118 = .ok (.getfield 35, 3) ∧ decode cX12_laysDown 121 = .ok (.bipush 9, 2) ∧ decode cX12_laysDown 123 = .ok (.dup2, 1) ∧ decode cX12_laysDown 124 = .ok (.iaload, 1) ∧ decode cX12_laysDown 125 = .ok (.iconst 1, 1) ∧ decode cX12_laysDown 126 = .ok (.iadd, 1) ∧ decode cX12_laysDown 127 = .ok (.iastore, 1) ∧ True := dkl_ok (c := cX12_laysDown) [(.aload_n 0, 1), (.getfield 35, 3), (.bipush 9, 2), (.dup2, 1), (.iaload, 1), (.iconst 1, 1), (.iadd, 1), (.iastore, 1)] 117 (by decide +kernel)
theorem dX12_laysDown_117 : decode cX12_laysDown 117 = .ok (.aload_n 0, 1) := eX12_laysDown_117.1
theorem dX12_laysDown_118 : decode cX12_laysDown 118 = .ok (.getfield 35, 3) := eX12_laysDown_117.2.1
theorem dX12_laysDown_121 : decode cX12_laysDown 121 = .ok (.bipush 9, 2) := eX12_laysDown_117.2.2.1
theorem dX12_laysDown_123 : decode cX12_laysDown 123 = .ok (.dup2, 1) := eX12_laysDown_117.2.2.2.1
theorem dX12_laysDown_124 : decode cX12_laysDown 124 = .ok (.iaload, 1) := eX12_laysDown_117.2.2.2.2.1
theorem dX12_laysDown_125 : decode cX12_laysDown 125 = .ok (.iconst 1, 1) := eX12_laysDown_117.2.2.2.2.2.1
theorem dX12_laysDown_126 : decode cX12_laysDown 126 = .ok (.iadd, 1) := eX12_laysDown_117.2.2.2.2.2.2.1
theorem dX12_laysDown_127 : decode cX12_laysDown 127 = .ok (.iastore, 1) := eX12_laysDown_117.2.2.2.2.2.2.2.1
theorem eX12_laysDown_128 : decode cX12_laysDown 128 = .ok (.aload_n 0, 1) ∧ decode cX12_laysDown 129 = .ok (.getfield 35, 3) ∧ decode cX12_laysDown 132 = .ok (.bipush 7, 2) ∧ decode cX12_laysDown 134 = .ok (.iconst 1, 1) ∧ decode cX12_laysDown 135 = .ok (.iastore, 1) ∧ decode cX12_laysDown 136 = .ok (.return_, 1) ∧ True := dkl_ok (c := cX12_laysDown) [(.aload_n 0, 1), (.getfield 35, 3), (.bipush 7, 2), (.iconst 1, 1), (.iastore, 1), (.return_, 1)] 128 (by decide +kernel)
theorem dX12_laysDown_128 : decode cX12_laysDown 128 = .ok (.aload_n 0, 1) := eX12_laysDown_128.1
theorem dX12_laysDown_129 : decode cX12_laysDown 129 = .ok (.getfield 35, 3) := eX12_laysDown_128.2.1
theorem dX12_laysDown_132 : decode cX12_laysDown 132 = .ok (.bipush 7, 2) := eX12_laysDown_128.2.2.1
theorem dX12_laysDown_134 : decode cX12_laysDown 134 = .ok (.iconst 1, 1) := eX12_laysDown_128.2.2.2.1
theorem dX12_laysDown_135 : decode cX12_laysDown 135 = .ok (.iastore, 1) := eX12_laysDown_128.2.2.2.2.1
theorem dX12_laysDown_136 : decode cX12_laysDown 136 = .ok (.return_, 1) := eX12_laysDown_128.2.2.2.2.2.1
theorem eX12_lay_0 : decode cX12_lay 0 = .ok (.aload_n 0, 1) ∧ decode cX12_lay 1 = .ok (.iconst 0, 1) ∧ decode cX12_lay 2 = .ok (.putfield 59, 3) ∧ decode cX12_lay 5 = .ok (.aload_n 0, 1) ∧ decode cX12_lay 6 = .ok (.iconst 0, 1) ∧ decode cX12_lay 7 = .ok (.putfield 62, 3) ∧ decode cX12_lay 10 = .ok (.aload_n 0, 1) ∧ decode cX12_lay 11 = .ok (.getfield 50, 3) ∧ True := dkl_ok (c := cX12_lay) [(.aload_n 0, 1), (.iconst 0, 1), (.putfield 59, 3), (.aload_n 0, 1), (.iconst 0, 1), (.putfield 62, 3), (.aload_n 0, 1), (.getfield 50, 3)] 0 (by decide +kernel)
theorem dX12_lay_0 : decode cX12_lay 0 = .ok (.aload_n 0, 1) := eX12_lay_0.1
theorem dX12_lay_1 : decode cX12_lay 1 = .ok (.iconst 0, 1) := eX12_lay_0.2.1
theorem dX12_lay_2 : decode cX12_lay 2 = .ok (.putfield 59, 3) := eX12_lay_0.2.2.1
theorem dX12_lay_5 : decode cX12_lay 5 = .ok (.aload_n 0, 1) := eX12_lay_0.2.2.2.1
theorem dX12_lay_6 : decode cX12_lay 6 = .ok (.iconst 0, 1) := eX12_lay_0.2.2.2.2.1
theorem dX12_lay_7 : decode cX12_lay 7 = .ok (.putfield 62, 3) := eX12_lay_0.2.2.2.2.2.1
theorem dX12_lay_10 : decode cX12_lay 10 = .ok (.aload_n 0, 1) := eX12_lay_0.2.2.2.2.2.2.1
theorem dX12_lay_11 : decode cX12_lay 11 = .ok (.getfield 50, 3) := eX12_lay_0.2.2.2.2.2.2.2.1
theorem eX12_lay_14 : decode cX12_lay 14 = .ok (.iconst 0, 1) ∧ decode cX12_lay 15 = .ok (.iload_n 1, 1) ∧ decode cX12_lay 16 = .ok (.iastore, 1) ∧ decode cX12_lay 17 = .ok (.aload_n 0, 1) ∧ decode cX12_lay 18 = .ok (.getfield 50, 3) ∧ decode cX12_lay 21 = .ok (.iconst 1, 1) ∧ decode cX12_lay 22 = .ok (.iload_n 2, 1) ∧ decode cX12_lay 23 = .ok (.iastore, 1) ∧ True := dkl_ok (c := cX12_lay) [(.iconst 0, 1), (.iload_n 1, 1), (.iastore, 1), (.aload_n 0, 1), (.getfield 50, 3), (.iconst 1, 1), (.iload_n 2, 1), (.iastore, 1)] 14 (by decide +kernel)
theorem dX12_lay_14 : decode cX12_lay 14 = .ok (.iconst 0, 1) := eX12_lay_14.1
theorem dX12_lay_15 : decode cX12_lay 15 = .ok (.iload_n 1, 1) := eX12_lay_14.2.1
theorem dX12_lay_16 : decode cX12_lay 16 = .ok (.iastore, 1) := eX12_lay_14.2.2.1
theorem dX12_lay_17 : decode cX12_lay 17 = .ok (.aload_n 0, 1) := eX12_lay_14.2.2.2.1
theorem dX12_lay_18 : decode cX12_lay 18 = .ok (.getfield 50, 3) := eX12_lay_14.2.2.2.2.1
theorem dX12_lay_21 : decode cX12_lay 21 = .ok (.iconst 1, 1) := eX12_lay_14.2.2.2.2.2.1
theorem dX12_lay_22 : decode cX12_lay 22 = .ok (.iload_n 2, 1) := eX12_lay_14.2.2.2.2.2.2.1
theorem dX12_lay_23 : decode cX12_lay 23 = .ok (.iastore, 1) := eX12_lay_14.2.2.2.2.2.2.2.1
theorem eX12_lay_24 : decode cX12_lay 24 = .ok (.aload_n 0, 1) ∧ decode cX12_lay 25 = .ok (.getfield 50, 3) ∧ decode cX12_lay 28 = .ok (.iconst 2, 1) ∧ decode cX12_lay 29 = .ok (.iload_n 3, 1) ∧ decode cX12_lay 30 = .ok (.iastore, 1) ∧ decode cX12_lay 31 = .ok (.aload_n 0, 1) ∧ decode cX12_lay 32 = .ok (.getfield 50, 3) ∧ decode cX12_lay 35 = .ok (.iconst 3, 1) ∧ True := dkl_ok (c := cX12_lay) [(.aload_n 0, 1), (.getfield 50, 3), (.iconst 2, 1), (.iload_n 3, 1), (.iastore, 1), (.aload_n 0, 1), (.getfield 50, 3), (.iconst 3, 1)] 24 (by decide +kernel)
theorem dX12_lay_24 : decode cX12_lay 24 = .ok (.aload_n 0, 1) := eX12_lay_24.1
theorem dX12_lay_25 : decode cX12_lay 25 = .ok (.getfield 50, 3) := eX12_lay_24.2.1
theorem dX12_lay_28 : decode cX12_lay 28 = .ok (.iconst 2, 1) := eX12_lay_24.2.2.1
theorem dX12_lay_29 : decode cX12_lay 29 = .ok (.iload_n 3, 1) := eX12_lay_24.2.2.2.1
theorem dX12_lay_30 : decode cX12_lay 30 = .ok (.iastore, 1) := eX12_lay_24.2.2.2.2.1
theorem dX12_lay_31 : decode cX12_lay 31 = .ok (.aload_n 0, 1) := eX12_lay_24.2.2.2.2.2.1
theorem dX12_lay_32 : decode cX12_lay 32 = .ok (.getfield 50, 3) := eX12_lay_24.2.2.2.2.2.2.1
theorem dX12_lay_35 : decode cX12_lay 35 = .ok (.iconst 3, 1) := eX12_lay_24.2.2.2.2.2.2.2.1
theorem eX12_lay_36 : decode cX12_lay 36 = .ok (.iload 4, 2) ∧ decode cX12_lay 38 = .ok (.iastore, 1) ∧ decode cX12_lay 39 = .ok (.iconst 0, 1) ∧ decode cX12_lay 40 = .ok (.istore 5, 2) ∧ decode cX12_lay 42 = .ok (.iload 5, 2) ∧ decode cX12_lay 44 = .ok (.bipush 10, 2) ∧ decode cX12_lay 46 = .ok (.if_icmp .ge 17, 3) ∧ decode cX12_lay 49 = .ok (.aload_n 0, 1) ∧ True := dkl_ok (c := cX12_lay) [(.iload 4, 2), (.iastore, 1), (.iconst 0, 1), (.istore 5, 2), (.iload 5, 2), (.bipush 10, 2), (.if_icmp .ge 17, 3), (.aload_n 0, 1)] 36 (by decide +kernel)
theorem dX12_lay_36 : decode cX12_lay 36 = .ok (.iload 4, 2) := eX12_lay_36.1
theorem dX12_lay_38 : decode cX12_lay 38 = .ok (.iastore, 1) := eX12_lay_36.2.1
theorem dX12_lay_39 : decode cX12_lay 39 = .ok (.iconst 0, 1) := eX12_lay_36.2.2.1
theorem dX12_lay_40 : decode cX12_lay 40 = .ok (.istore 5, 2) := eX12_lay_36.2.2.2.1
theorem dX12_lay_42 : decode cX12_lay 42 = .ok (.iload 5, 2) := eX12_lay_36.2.2.2.2.1
theorem dX12_lay_44 : decode cX12_lay 44 = .ok (.bipush 10, 2) := eX12_lay_36.2.2.2.2.2.1
theorem dX12_lay_46 : decode cX12_lay 46 = .ok (.if_icmp .ge 17, 3) := eX12_lay_36.2.2.2.2.2.2.1
theorem dX12_lay_49 : decode cX12_lay 49 = .ok (.aload_n 0, 1) := eX12_lay_36.2.2.2.2.2.2.2.1
theorem eX12_lay_50 : decode cX12_lay 50 = .ok (.getfield 47, 3) ∧ decode cX12_lay 53 = .ok (.iload 5, 2) ∧ decode cX12_lay 55 = .ok (.iconst 0, 1) ∧ decode cX12_lay 56 = .ok (.iastore, 1) ∧ decode cX12_lay 57 = .ok (.iinc 5 1, 3) ∧ decode cX12_lay 60 = .ok (.goto (-18), 3) ∧ decode cX12_lay 63 = .ok (.iconst 0, 1) ∧ decode cX12_lay 64 = .ok (.istore 5, 2) ∧ True := dkl_ok (c := cX12_lay) [(.getfield 47, 3), (.iload 5, 2), (.iconst 0, 1), (.iastore, 1), (.iinc 5 1, 3), (.goto (-18), 3), (.iconst 0, 1), (.istore 5, 2)] 50 (by decide +kernel)
theorem dX12_lay_50 : decode cX12_lay 50 = .ok (.getfield 47, 3) := eX12_lay_50.1
theorem dX12_lay_53 : decode cX12_lay 53 = .ok (.iload 5, 2) := eX12_lay_50.2.1
theorem dX12_lay_55 : decode cX12_lay 55 = .ok (.iconst 0, 1) := eX12_lay_50.2.2.1
theorem dX12_lay_56 : decode cX12_lay 56 = .ok (.iastore, 1) := eX12_lay_50.2.2.2.1
theorem dX12_lay_57 : decode cX12_lay 57 = .ok (.iinc 5 1, 3) := eX12_lay_50.2.2.2.2.1
theorem dX12_lay_60 : decode cX12_lay 60 = .ok (.goto (-18), 3) := eX12_lay_50.2.2.2.2.2.1
theorem dX12_lay_63 : decode cX12_lay 63 = .ok (.iconst 0, 1) := eX12_lay_50.2.2.2.2.2.2.1
theorem dX12_lay_64 : decode cX12_lay 64 = .ok (.istore 5, 2) := eX12_lay_50.2.2.2.2.2.2.2.1
theorem eX12_lay_66 : decode cX12_lay 66 = .ok (.iconst 0, 1) ∧ decode cX12_lay 67 = .ok (.istore 6, 2) ∧ decode cX12_lay 69 = .ok (.iconst 0, 1) ∧ decode cX12_lay 70 = .ok (.istore 7, 2) ∧ decode cX12_lay 72 = .ok (.iconst 0, 1) ∧ decode cX12_lay 73 = .ok (.istore 8, 2) ∧ decode cX12_lay 75 = .ok (.iload 8, 2) ∧ decode cX12_lay 77 = .ok (.iconst 4, 1) ∧ True := dkl_ok (c := cX12_lay) [(.iconst 0, 1), (.istore 6, 2), (.iconst 0, 1), (.istore 7, 2), (.iconst 0, 1), (.istore 8, 2), (.iload 8, 2), (.iconst 4, 1)] 66 (by decide +kernel)
theorem dX12_lay_66 : decode cX12_lay 66 = .ok (.iconst 0, 1) := eX12_lay_66.1
theorem dX12_lay_67 : decode cX12_lay 67 = .ok (.istore 6, 2) := eX12_lay_66.2.1
theorem dX12_lay_69 : decode cX12_lay 69 = .ok (.iconst 0, 1) := eX12_lay_66.2.2.1
theorem dX12_lay_70 : decode cX12_lay 70 = .ok (.istore 7, 2) := eX12_lay_66.2.2.2.1
theorem dX12_lay_72 : decode cX12_lay 72 = .ok (.iconst 0, 1) := eX12_lay_66.2.2.2.2.1
theorem dX12_lay_73 : decode cX12_lay 73 = .ok (.istore 8, 2) := eX12_lay_66.2.2.2.2.2.1
theorem dX12_lay_75 : decode cX12_lay 75 = .ok (.iload 8, 2) := eX12_lay_66.2.2.2.2.2.2.1
theorem dX12_lay_77 : decode cX12_lay 77 = .ok (.iconst 4, 1) := eX12_lay_66.2.2.2.2.2.2.2.1
theorem eX12_lay_78 : decode cX12_lay 78 = .ok (.if_icmp .ge 139, 3) ∧ decode cX12_lay 81 = .ok (.aload_n 0, 1) ∧ decode cX12_lay 82 = .ok (.getfield 50, 3) ∧ decode cX12_lay 85 = .ok (.iload 8, 2) ∧ decode cX12_lay 87 = .ok (.iaload, 1) ∧ decode cX12_lay 88 = .ok (.iconst (-1), 1) ∧ decode cX12_lay 89 = .ok (.if_icmp .eq 23, 3) ∧ decode cX12_lay 92 = .ok (.aload_n 0, 1) ∧ True := dkl_ok (c := cX12_lay) [(.if_icmp .ge 139, 3), (.aload_n 0, 1), (.getfield 50, 3), (.iload 8, 2), (.iaload, 1), (.iconst (-1), 1), (.if_icmp .eq 23, 3), (.aload_n 0, 1)] 78 (by decide +kernel)
theorem dX12_lay_78 : decode cX12_lay 78 = .ok (.if_icmp .ge 139, 3) := eX12_lay_78.1
theorem dX12_lay_81 : decode cX12_lay 81 = .ok (.aload_n 0, 1) := eX12_lay_78.2.1
theorem dX12_lay_82 : decode cX12_lay 82 = .ok (.getfield 50, 3) := eX12_lay_78.2.2.1
theorem dX12_lay_85 : decode cX12_lay 85 = .ok (.iload 8, 2) := eX12_lay_78.2.2.2.1
theorem dX12_lay_87 : decode cX12_lay 87 = .ok (.iaload, 1) := eX12_lay_78.2.2.2.2.1
theorem dX12_lay_88 : decode cX12_lay 88 = .ok (.iconst (-1), 1) := eX12_lay_78.2.2.2.2.2.1
theorem dX12_lay_89 : decode cX12_lay 89 = .ok (.if_icmp .eq 23, 3) := eX12_lay_78.2.2.2.2.2.2.1
theorem dX12_lay_92 : decode cX12_lay 92 = .ok (.aload_n 0, 1) := eX12_lay_78.2.2.2.2.2.2.2.1
theorem eX12_lay_93 : decode cX12_lay 93 = .ok (.aload_n 0, 1) ∧ decode cX12_lay 94 = .ok (.getfield 50, 3) ∧ decode cX12_lay 97 = .ok (.iload 8, 2) ∧ decode cX12_lay 99 = .ok (.iaload, 1) ∧ decode cX12_lay 100 = .ok (.invokevirtual 299, 3) ∧ decode cX12_lay 103 = .ok (.ifCond .ne 9, 3) ∧ decode cX12_lay 106 = .ok (.aload_n 0, 1) ∧ decode cX12_lay 107 = .ok (.iconst 2, 1) ∧ True := dkl_ok (c := cX12_lay) [(.aload_n 0, 1), (.getfield 50, 3), (.iload 8, 2), (.iaload, 1), (.invokevirtual 299, 3), (.ifCond .ne 9, 3), (.aload_n 0, 1), (.iconst 2, 1)] 93 (by decide +kernel)
theorem dX12_lay_93 : decode cX12_lay 93 = .ok (.aload_n 0, 1) := eX12_lay_93.1
theorem dX12_lay_94 : decode cX12_lay 94 = .ok (.getfield 50, 3) := eX12_lay_93.2.1
theorem dX12_lay_97 : decode cX12_lay 97 = .ok (.iload 8, 2) := eX12_lay_93.2.2.1
theorem dX12_lay_99 : decode cX12_lay 99 = .ok (.iaload, 1) := eX12_lay_93.2.2.2.1
theorem dX12_lay_100 : decode cX12_lay 100 = .ok (.invokevirtual 299, 3) := eX12_lay_93.2.2.2.2.1
theorem dX12_lay_103 : decode cX12_lay 103 = .ok (.ifCond .ne 9, 3) := eX12_lay_93.2.2.2.2.2.1
theorem dX12_lay_106 : decode cX12_lay 106 = .ok (.aload_n 0, 1) := eX12_lay_93.2.2.2.2.2.2.1
theorem dX12_lay_107 : decode cX12_lay 107 = .ok (.iconst 2, 1) := eX12_lay_93.2.2.2.2.2.2.2.1
theorem eX12_lay_108 : decode cX12_lay 108 = .ok (.invokevirtual 284, 3) ∧ decode cX12_lay 111 = .ok (.ireturn, 1) ∧ decode cX12_lay 112 = .ok (.iload 7, 2) ∧ decode cX12_lay 114 = .ok (.ifCond .ne 14, 3) ∧ decode cX12_lay 117 = .ok (.aload_n 0, 1) ∧ decode cX12_lay 118 = .ok (.getfield 50, 3) ∧ decode cX12_lay 121 = .ok (.iload 8, 2) ∧ decode cX12_lay 123 = .ok (.iaload, 1) ∧ True := dkl_ok (c := cX12_lay) [(.invokevirtual 284, 3), (.ireturn, 1), (.iload 7, 2), (.ifCond .ne 14, 3), (.aload_n 0, 1), (.getfield 50, 3), (.iload 8, 2), (.iaload, 1)] 108 (by decide +kernel)
theorem dX12_lay_108 : decode cX12_lay 108 = .ok (.invokevirtual 284, 3) := eX12_lay_108.1
theorem dX12_lay_111 : decode cX12_lay 111 = .ok (.ireturn, 1) := eX12_lay_108.2.1
theorem dX12_lay_112 : decode cX12_lay 112 = .ok (.iload 7, 2) := eX12_lay_108.2.2.1
theorem dX12_lay_114 : decode cX12_lay 114 = .ok (.ifCond .ne 14, 3) := eX12_lay_108.2.2.2.1
theorem dX12_lay_117 : decode cX12_lay 117 = .ok (.aload_n 0, 1) := eX12_lay_108.2.2.2.2.1
theorem dX12_lay_118 : decode cX12_lay 118 = .ok (.getfield 50, 3) := eX12_lay_108.2.2.2.2.2.1
theorem dX12_lay_121 : decode cX12_lay 121 = .ok (.iload 8, 2) := eX12_lay_108.2.2.2.2.2.2.1
theorem dX12_lay_123 : decode cX12_lay 123 = .ok (.iaload, 1) := eX12_lay_108.2.2.2.2.2.2.2.1
theorem eX12_lay_124 : decode cX12_lay 124 = .ok (.iconst (-1), 1) ∧ decode cX12_lay 125 = .ok (.if_icmp .ne 7, 3) ∧ decode cX12_lay 128 = .ok (.iconst 1, 1) ∧ decode cX12_lay 129 = .ok (.goto 4, 3) ∧ decode cX12_lay 132 = .ok (.iconst 0, 1) ∧ decode cX12_lay 133 = .ok (.istore 7, 2) ∧ decode cX12_lay 135 = .ok (.iload 6, 2) ∧ decode cX12_lay 137 = .ok (.ifCond .ne 19, 3) ∧ True := dkl_ok (c := cX12_lay) [(.iconst (-1), 1), (.if_icmp .ne 7, 3), (.iconst 1, 1), (.goto 4, 3), (.iconst 0, 1), (.istore 7, 2), (.iload 6, 2), (.ifCond .ne 19, 3)] 124 (by decide +kernel)
theorem dX12_lay_124 : decode cX12_lay 124 = .ok (.iconst (-1), 1) := eX12_lay_124.1
theorem dX12_lay_125 : decode cX12_lay 125 = .ok (.if_icmp .ne 7, 3) := eX12_lay_124.2.1
theorem dX12_lay_128 : decode cX12_lay 128 = .ok (.iconst 1, 1) := eX12_lay_124.2.2.1
theorem dX12_lay_129 : decode cX12_lay 129 = .ok (.goto 4, 3) := eX12_lay_124.2.2.2.1
theorem dX12_lay_132 : decode cX12_lay 132 = .ok (.iconst 0, 1) := eX12_lay_124.2.2.2.2.1
theorem dX12_lay_133 : decode cX12_lay 133 = .ok (.istore 7, 2) := eX12_lay_124.2.2.2.2.2.1
theorem dX12_lay_135 : decode cX12_lay 135 = .ok (.iload 6, 2) := eX12_lay_124.2.2.2.2.2.2.1
theorem dX12_lay_137 : decode cX12_lay 137 = .ok (.ifCond .ne 19, 3) := eX12_lay_124.2.2.2.2.2.2.2.1
theorem eX12_lay_140 : decode cX12_lay 140 = .ok (.iload 7, 2) ∧ decode cX12_lay 142 = .ok (.ifCond .eq 18, 3) ∧ decode cX12_lay 145 = .ok (.aload_n 0, 1) ∧ decode cX12_lay 146 = .ok (.getfield 50, 3) ∧ decode cX12_lay 149 = .ok (.iload 8, 2) ∧ decode cX12_lay 151 = .ok (.iaload, 1) ∧ decode cX12_lay 152 = .ok (.iconst (-1), 1) ∧ decode cX12_lay 153 = .ok (.if_icmp .eq 7, 3) ∧ True := dkl_ok (c := cX12_lay) [(.iload 7, 2), (.ifCond .eq 18, 3), (.aload_n 0, 1), (.getfield 50, 3), (.iload 8, 2), (.iaload, 1), (.iconst (-1), 1), (.if_icmp .eq 7, 3)] 140 (by decide +kernel)
theorem dX12_lay_140 : decode cX12_lay 140 = .ok (.iload 7, 2) := eX12_lay_140.1
theorem dX12_lay_142 : decode cX12_lay 142 = .ok (.ifCond .eq 18, 3) := eX12_lay_140.2.1
theorem dX12_lay_145 : decode cX12_lay 145 = .ok (.aload_n 0, 1) := eX12_lay_140.2.2.1
theorem dX12_lay_146 : decode cX12_lay 146 = .ok (.getfield 50, 3) := eX12_lay_140.2.2.2.1
theorem dX12_lay_149 : decode cX12_lay 149 = .ok (.iload 8, 2) := eX12_lay_140.2.2.2.2.1
theorem dX12_lay_151 : decode cX12_lay 151 = .ok (.iaload, 1) := eX12_lay_140.2.2.2.2.2.1
theorem dX12_lay_152 : decode cX12_lay 152 = .ok (.iconst (-1), 1) := eX12_lay_140.2.2.2.2.2.2.1
theorem dX12_lay_153 : decode cX12_lay 153 = .ok (.if_icmp .eq 7, 3) := eX12_lay_140.2.2.2.2.2.2.2.1
theorem eX12_lay_156 : decode cX12_lay 156 = .ok (.iconst 1, 1) ∧ decode cX12_lay 157 = .ok (.goto 4, 3) ∧ decode cX12_lay 160 = .ok (.iconst 0, 1) ∧ decode cX12_lay 161 = .ok (.istore 6, 2) ∧ decode cX12_lay 163 = .ok (.iload 5, 2) ∧ decode cX12_lay 165 = .ok (.aload_n 0, 1) ∧ decode cX12_lay 166 = .ok (.getfield 50, 3) ∧ decode cX12_lay 169 = .ok (.iload 8, 2) ∧ True := dkl_ok (c := cX12_lay) [(.iconst 1, 1), (.goto 4, 3), (.iconst 0, 1), (.istore 6, 2), (.iload 5, 2), (.aload_n 0, 1), (.getfield 50, 3), (.iload 8, 2)] 156 (by decide +kernel)
theorem dX12_lay_156 : decode cX12_lay 156 = .ok (.iconst 1, 1) := eX12_lay_156.1
theorem dX12_lay_157 : decode cX12_lay 157 = .ok (.goto 4, 3) := eX12_lay_156.2.1
theorem dX12_lay_160 : decode cX12_lay 160 = .ok (.iconst 0, 1) := eX12_lay_156.2.2.1
theorem dX12_lay_161 : decode cX12_lay 161 = .ok (.istore 6, 2) := eX12_lay_156.2.2.2.1
theorem dX12_lay_163 : decode cX12_lay 163 = .ok (.iload 5, 2) := eX12_lay_156.2.2.2.2.1
theorem dX12_lay_165 : decode cX12_lay 165 = .ok (.aload_n 0, 1) := eX12_lay_156.2.2.2.2.2.1
theorem dX12_lay_166 : decode cX12_lay 166 = .ok (.getfield 50, 3) := eX12_lay_156.2.2.2.2.2.2.1
theorem dX12_lay_169 : decode cX12_lay 169 = .ok (.iload 8, 2) := eX12_lay_156.2.2.2.2.2.2.2.1
theorem eX12_lay_171 : decode cX12_lay 171 = .ok (.iaload, 1) ∧ decode cX12_lay 172 = .ok (.iconst (-1), 1) ∧ decode cX12_lay 173 = .ok (.if_icmp .ne 7, 3) ∧ decode cX12_lay 176 = .ok (.iconst 0, 1) ∧ decode cX12_lay 177 = .ok (.goto 4, 3) ∧ decode cX12_lay 180 = .ok (.iconst 1, 1) ∧ decode cX12_lay 181 = .ok (.iadd, 1) ∧ decode cX12_lay 182 = .ok (.istore 5, 2) ∧ True := dkl_ok (c := cX12_lay) [(.iaload, 1), (.iconst (-1), 1), (.if_icmp .ne 7, 3), (.iconst 0, 1), (.goto 4, 3), (.iconst 1, 1), (.iadd, 1), (.istore 5, 2)] 171 (by decide +kernel)
theorem dX12_lay_171 : decode cX12_lay 171 = .ok (.iaload, 1) := eX12_lay_171.1
theorem dX12_lay_172 : decode cX12_lay 172 = .ok (.iconst (-1), 1) := eX12_lay_171.2.1
theorem dX12_lay_173 : decode cX12_lay 173 = .ok (.if_icmp .ne 7, 3) := eX12_lay_171.2.2.1
theorem dX12_lay_176 : decode cX12_lay 176 = .ok (.iconst 0, 1) := eX12_lay_171.2.2.2.1
theorem dX12_lay_177 : decode cX12_lay 177 = .ok (.goto 4, 3) := eX12_lay_171.2.2.2.2.1
theorem dX12_lay_180 : decode cX12_lay 180 = .ok (.iconst 1, 1) := eX12_lay_171.2.2.2.2.2.1
theorem dX12_lay_181 : decode cX12_lay 181 = .ok (.iadd, 1) := eX12_lay_171.2.2.2.2.2.2.1
theorem dX12_lay_182 : decode cX12_lay 182 = .ok (.istore 5, 2) := eX12_lay_171.2.2.2.2.2.2.2.1
theorem eX12_lay_184 : decode cX12_lay 184 = .ok (.aload_n 0, 1) ∧ decode cX12_lay 185 = .ok (.getfield 50, 3) ∧ decode cX12_lay 188 = .ok (.iload 8, 2) ∧ decode cX12_lay 190 = .ok (.iaload, 1) ∧ decode cX12_lay 191 = .ok (.iconst (-1), 1) ∧ decode cX12_lay 192 = .ok (.if_icmp .eq 19, 3) ∧ decode cX12_lay 195 = .ok (.aload_n 0, 1) ∧ decode cX12_lay 196 = .ok (.getfield 47, 3) ∧ True := dkl_ok (c := cX12_lay) [(.aload_n 0, 1), (.getfield 50, 3), (.iload 8, 2), (.iaload, 1), (.iconst (-1), 1), (.if_icmp .eq 19, 3), (.aload_n 0, 1), (.getfield 47, 3)] 184 (by decide +kernel)
theorem dX12_lay_184 : decode cX12_lay 184 = .ok (.aload_n 0, 1) := eX12_lay_184.1
theorem dX12_lay_185 : decode cX12_lay 185 = .ok (.getfield 50, 3) := eX12_lay_184.2.1
theorem dX12_lay_188 : decode cX12_lay 188 = .ok (.iload 8, 2) := eX12_lay_184.2.2.1
theorem dX12_lay_190 : decode cX12_lay 190 = .ok (.iaload, 1) := eX12_lay_184.2.2.2.1
theorem dX12_lay_191 : decode cX12_lay 191 = .ok (.iconst (-1), 1) := eX12_lay_184.2.2.2.2.1
theorem dX12_lay_192 : decode cX12_lay 192 = .ok (.if_icmp .eq 19, 3) := eX12_lay_184.2.2.2.2.2.1
theorem dX12_lay_195 : decode cX12_lay 195 = .ok (.aload_n 0, 1) := eX12_lay_184.2.2.2.2.2.2.1
theorem dX12_lay_196 : decode cX12_lay 196 = .ok (.getfield 47, 3) := eX12_lay_184.2.2.2.2.2.2.2.1
theorem eX12_lay_199 : decode cX12_lay 199 = .ok (.aload_n 0, 1) ∧ decode cX12_lay 200 = .ok (.getfield 50, 3) ∧ decode cX12_lay 203 = .ok (.iload 8, 2) ∧ decode cX12_lay 205 = .ok (.iaload, 1) ∧ decode cX12_lay 206 = .ok (.dup2, 1) ∧ decode cX12_lay 207 = .ok (.iaload, 1) ∧ decode cX12_lay 208 = .ok (.iconst 1, 1) ∧ decode cX12_lay 209 = .ok (.iadd, 1) ∧ True := dkl_ok (c := cX12_lay) [(.aload_n 0, 1), (.getfield 50, 3), (.iload 8, 2), (.iaload, 1), (.dup2, 1), (.iaload, 1), (.iconst 1, 1), (.iadd, 1)] 199 (by decide +kernel)
theorem dX12_lay_199 : decode cX12_lay 199 = .ok (.aload_n 0, 1) := eX12_lay_199.1
theorem dX12_lay_200 : decode cX12_lay 200 = .ok (.getfield 50, 3) := eX12_lay_199.2.1
theorem dX12_lay_203 : decode cX12_lay 203 = .ok (.iload 8, 2) := eX12_lay_199.2.2.1
theorem dX12_lay_205 : decode cX12_lay 205 = .ok (.iaload, 1) := eX12_lay_199.2.2.2.1
theorem dX12_lay_206 : decode cX12_lay 206 = .ok (.dup2, 1) := eX12_lay_199.2.2.2.2.1
theorem dX12_lay_207 : decode cX12_lay 207 = .ok (.iaload, 1) := eX12_lay_199.2.2.2.2.2.1
theorem dX12_lay_208 : decode cX12_lay 208 = .ok (.iconst 1, 1) := eX12_lay_199.2.2.2.2.2.2.1
theorem dX12_lay_209 : decode cX12_lay 209 = .ok (.iadd, 1) := eX12_lay_199.2.2.2.2.2.2.2.1
theorem eX12_lay_210 : decode cX12_lay 210 = .ok (.iastore, 1) ∧ decode cX12_lay 211 = .ok (.iinc 8 1, 3) ∧ decode cX12_lay 214 = .ok (.goto (-139), 3) ∧ decode cX12_lay 217 = .ok (.iload 5, 2) ∧ decode cX12_lay 219 = .ok (.ifCond .eq 8, 3) ∧ decode cX12_lay 222 = .ok (.iload 6, 2) ∧ decode cX12_lay 224 = .ok (.ifCond .eq 9, 3) ∧ decode cX12_lay 227 = .ok (.aload_n 0, 1) ∧ True := dkl_ok (c := cX12_lay) [(.iastore, 1), (.iinc 8 1, 3), (.goto (-139), 3), (.iload 5, 2), (.ifCond .eq 8, 3), (.iload 6, 2), (.ifCond .eq 9, 3), (.aload_n 0, 1)] 210 (by decide +kernel)
theorem dX12_lay_210 : decode cX12_lay 210 = .ok (.iastore, 1) := eX12_lay_210.1
theorem dX12_lay_211 : decode cX12_lay 211 = .ok (.iinc 8 1, 3) := eX12_lay_210.2.1
theorem dX12_lay_214 : decode cX12_lay 214 = .ok (.goto (-139), 3) := eX12_lay_210.2.2.1
theorem dX12_lay_217 : decode cX12_lay 217 = .ok (.iload 5, 2) := eX12_lay_210.2.2.2.1
theorem dX12_lay_219 : decode cX12_lay 219 = .ok (.ifCond .eq 8, 3) := eX12_lay_210.2.2.2.2.1
theorem dX12_lay_222 : decode cX12_lay 222 = .ok (.iload 6, 2) := eX12_lay_210.2.2.2.2.2.1
theorem dX12_lay_224 : decode cX12_lay 224 = .ok (.ifCond .eq 9, 3) := eX12_lay_210.2.2.2.2.2.2.1
theorem dX12_lay_227 : decode cX12_lay 227 = .ok (.aload_n 0, 1) := eX12_lay_210.2.2.2.2.2.2.2.1
theorem eX12_lay_228 : decode cX12_lay 228 = .ok (.iconst 5, 1) ∧ decode cX12_lay 229 = .ok (.invokevirtual 284, 3) ∧ decode cX12_lay 232 = .ok (.ireturn, 1) ∧ decode cX12_lay 233 = .ok (.iload 5, 2) ∧ decode cX12_lay 235 = .ok (.aload_n 0, 1) ∧ decode cX12_lay 236 = .ok (.getfield 35, 3) ∧ decode cX12_lay 239 = .ok (.iconst 4, 1) ∧ decode cX12_lay 240 = .ok (.iaload, 1) ∧ True := dkl_ok (c := cX12_lay) [(.iconst 5, 1), (.invokevirtual 284, 3), (.ireturn, 1), (.iload 5, 2), (.aload_n 0, 1), (.getfield 35, 3), (.iconst 4, 1), (.iaload, 1)] 228 (by decide +kernel)
theorem dX12_lay_228 : decode cX12_lay 228 = .ok (.iconst 5, 1) := eX12_lay_228.1
theorem dX12_lay_229 : decode cX12_lay 229 = .ok (.invokevirtual 284, 3) := eX12_lay_228.2.1
theorem dX12_lay_232 : decode cX12_lay 232 = .ok (.ireturn, 1) := eX12_lay_228.2.2.1
theorem dX12_lay_233 : decode cX12_lay 233 = .ok (.iload 5, 2) := eX12_lay_228.2.2.2.1
theorem dX12_lay_235 : decode cX12_lay 235 = .ok (.aload_n 0, 1) := eX12_lay_228.2.2.2.2.1
theorem dX12_lay_236 : decode cX12_lay 236 = .ok (.getfield 35, 3) := eX12_lay_228.2.2.2.2.2.1
theorem dX12_lay_239 : decode cX12_lay 239 = .ok (.iconst 4, 1) := eX12_lay_228.2.2.2.2.2.2.1
theorem dX12_lay_240 : decode cX12_lay 240 = .ok (.iaload, 1) := eX12_lay_228.2.2.2.2.2.2.2.1
theorem eX12_lay_241 : decode cX12_lay 241 = .ok (.if_icmp .le 10, 3) ∧ decode cX12_lay 244 = .ok (.aload_n 0, 1) ∧ decode cX12_lay 245 = .ok (.bipush 7, 2) ∧ decode cX12_lay 247 = .ok (.invokevirtual 284, 3) ∧ decode cX12_lay 250 = .ok (.ireturn, 1) ∧ decode cX12_lay 251 = .ok (.aload_n 0, 1) ∧ decode cX12_lay 252 = .ok (.getfield 35, 3) ∧ decode cX12_lay 255 = .ok (.bipush 7, 2) ∧ True := dkl_ok (c := cX12_lay) [(.if_icmp .le 10, 3), (.aload_n 0, 1), (.bipush 7, 2), (.invokevirtual 284, 3), (.ireturn, 1), (.aload_n 0, 1), (.getfield 35, 3), (.bipush 7, 2)] 241 (by decide +kernel)
theorem dX12_lay_241 : decode cX12_lay 241 = .ok (.if_icmp .le 10, 3) := eX12_lay_241.1
theorem dX12_lay_244 : decode cX12_lay 244 = .ok (.aload_n 0, 1) := eX12_lay_241.2.1
theorem dX12_lay_245 : decode cX12_lay 245 = .ok (.bipush 7, 2) := eX12_lay_241.2.2.1
theorem dX12_lay_247 : decode cX12_lay 247 = .ok (.invokevirtual 284, 3) := eX12_lay_241.2.2.2.1
theorem dX12_lay_250 : decode cX12_lay 250 = .ok (.ireturn, 1) := eX12_lay_241.2.2.2.2.1
theorem dX12_lay_251 : decode cX12_lay 251 = .ok (.aload_n 0, 1) := eX12_lay_241.2.2.2.2.2.1
theorem dX12_lay_252 : decode cX12_lay 252 = .ok (.getfield 35, 3) := eX12_lay_241.2.2.2.2.2.2.1
theorem dX12_lay_255 : decode cX12_lay 255 = .ok (.bipush 7, 2) := eX12_lay_241.2.2.2.2.2.2.2.1
theorem eX12_lay_257 : decode cX12_lay 257 = .ok (.iaload, 1) ∧ decode cX12_lay 258 = .ok (.iconst 1, 1) ∧ decode cX12_lay 259 = .ok (.if_icmp .eq 23, 3) ∧ decode cX12_lay 262 = .ok (.aload_n 0, 1) ∧ decode cX12_lay 263 = .ok (.getfield 35, 3) ∧ decode cX12_lay 266 = .ok (.bipush 8, 2) ∧ decode cX12_lay 268 = .ok (.iaload, 1) ∧ decode cX12_lay 269 = .ok (.ifCond .ge 13, 3) ∧ True := dkl_ok (c := cX12_lay) [(.iaload, 1), (.iconst 1, 1), (.if_icmp .eq 23, 3), (.aload_n 0, 1), (.getfield 35, 3), (.bipush 8, 2), (.iaload, 1), (.ifCond .ge 13, 3)] 257 (by decide +kernel)
theorem dX12_lay_257 : decode cX12_lay 257 = .ok (.iaload, 1) := eX12_lay_257.1
theorem dX12_lay_258 : decode cX12_lay 258 = .ok (.iconst 1, 1) := eX12_lay_257.2.1
theorem dX12_lay_259 : decode cX12_lay 259 = .ok (.if_icmp .eq 23, 3) := eX12_lay_257.2.2.1
theorem dX12_lay_262 : decode cX12_lay 262 = .ok (.aload_n 0, 1) := eX12_lay_257.2.2.2.1
theorem dX12_lay_263 : decode cX12_lay 263 = .ok (.getfield 35, 3) := eX12_lay_257.2.2.2.2.1
theorem dX12_lay_266 : decode cX12_lay 266 = .ok (.bipush 8, 2) := eX12_lay_257.2.2.2.2.2.1
theorem dX12_lay_268 : decode cX12_lay 268 = .ok (.iaload, 1) := eX12_lay_257.2.2.2.2.2.2.1
theorem dX12_lay_269 : decode cX12_lay 269 = .ok (.ifCond .ge 13, 3) := eX12_lay_257.2.2.2.2.2.2.2.1
theorem eX12_lay_272 : decode cX12_lay 272 = .ok (.aload_n 0, 1) ∧ decode cX12_lay 273 = .ok (.getfield 35, 3) ∧ decode cX12_lay 276 = .ok (.bipush 6, 2) ∧ decode cX12_lay 278 = .ok (.iaload, 1) ∧ decode cX12_lay 279 = .ok (.ifCond .ge 10, 3) ∧ decode cX12_lay 282 = .ok (.aload_n 0, 1) ∧ decode cX12_lay 283 = .ok (.bipush 9, 2) ∧ decode cX12_lay 285 = .ok (.invokevirtual 284, 3) ∧ True := dkl_ok (c := cX12_lay) [(.aload_n 0, 1), (.getfield 35, 3), (.bipush 6, 2), (.iaload, 1), (.ifCond .ge 10, 3), (.aload_n 0, 1), (.bipush 9, 2), (.invokevirtual 284, 3)] 272 (by decide +kernel)
theorem dX12_lay_272 : decode cX12_lay 272 = .ok (.aload_n 0, 1) := eX12_lay_272.1
theorem dX12_lay_273 : decode cX12_lay 273 = .ok (.getfield 35, 3) := eX12_lay_272.2.1
theorem dX12_lay_276 : decode cX12_lay 276 = .ok (.bipush 6, 2) := eX12_lay_272.2.2.1
theorem dX12_lay_278 : decode cX12_lay 278 = .ok (.iaload, 1) := eX12_lay_272.2.2.2.1
theorem dX12_lay_279 : decode cX12_lay 279 = .ok (.ifCond .ge 10, 3) := eX12_lay_272.2.2.2.2.1
theorem dX12_lay_282 : decode cX12_lay 282 = .ok (.aload_n 0, 1) := eX12_lay_272.2.2.2.2.2.1
theorem dX12_lay_283 : decode cX12_lay 283 = .ok (.bipush 9, 2) := eX12_lay_272.2.2.2.2.2.2.1
theorem dX12_lay_285 : decode cX12_lay 285 = .ok (.invokevirtual 284, 3) := eX12_lay_272.2.2.2.2.2.2.2.1
theorem eX12_lay_288 : decode cX12_lay 288 = .ok (.ireturn, 1) ∧ decode cX12_lay 289 = .ok (.iconst 0, 1) ∧ decode cX12_lay 290 = .ok (.istore 8, 2) ∧ decode cX12_lay 292 = .ok (.iload 8, 2) ∧ decode cX12_lay 294 = .ok (.bipush 10, 2) ∧ decode cX12_lay 296 = .ok (.if_icmp .ge 39, 3) ∧ decode cX12_lay 299 = .ok (.aload_n 0, 1) ∧ decode cX12_lay 300 = .ok (.getfield 47, 3) ∧ True := dkl_ok (c := cX12_lay) [(.ireturn, 1), (.iconst 0, 1), (.istore 8, 2), (.iload 8, 2), (.bipush 10, 2), (.if_icmp .ge 39, 3), (.aload_n 0, 1), (.getfield 47, 3)] 288 (by decide +kernel)
theorem dX12_lay_288 : decode cX12_lay 288 = .ok (.ireturn, 1) := eX12_lay_288.1
theorem dX12_lay_289 : decode cX12_lay 289 = .ok (.iconst 0, 1) := eX12_lay_288.2.1
theorem dX12_lay_290 : decode cX12_lay 290 = .ok (.istore 8, 2) := eX12_lay_288.2.2.1
theorem dX12_lay_292 : decode cX12_lay 292 = .ok (.iload 8, 2) := eX12_lay_288.2.2.2.1
theorem dX12_lay_294 : decode cX12_lay 294 = .ok (.bipush 10, 2) := eX12_lay_288.2.2.2.2.1
theorem dX12_lay_296 : decode cX12_lay 296 = .ok (.if_icmp .ge 39, 3) := eX12_lay_288.2.2.2.2.2.1
theorem dX12_lay_299 : decode cX12_lay 299 = .ok (.aload_n 0, 1) := eX12_lay_288.2.2.2.2.2.2.1
theorem dX12_lay_300 : decode cX12_lay 300 = .ok (.getfield 47, 3) := eX12_lay_288.2.2.2.2.2.2.2.1
theorem eX12_lay_303 : decode cX12_lay 303 = .ok (.iload 8, 2) ∧ decode cX12_lay 305 = .ok (.iaload, 1) ∧ decode cX12_lay 306 = .ok (.aload_n 0, 1) ∧ decode cX12_lay 307 = .ok (.aload_n 0, 1) ∧ decode cX12_lay 308 = .ok (.getfield 35, 3) ∧ decode cX12_lay 311 = .ok (.bipush 6, 2) ∧ decode cX12_lay 313 = .ok (.iaload, 1) ∧ decode cX12_lay 314 = .ok (.iload 8, 2) ∧ True := dkl_ok (c := cX12_lay) [(.iload 8, 2), (.iaload, 1), (.aload_n 0, 1), (.aload_n 0, 1), (.getfield 35, 3), (.bipush 6, 2), (.iaload, 1), (.iload 8, 2)] 303 (by decide +kernel)
theorem dX12_lay_303 : decode cX12_lay 303 = .ok (.iload 8, 2) := eX12_lay_303.1
theorem dX12_lay_305 : decode cX12_lay 305 = .ok (.iaload, 1) := eX12_lay_303.2.1
theorem dX12_lay_306 : decode cX12_lay 306 = .ok (.aload_n 0, 1) := eX12_lay_303.2.2.1
theorem dX12_lay_307 : decode cX12_lay 307 = .ok (.aload_n 0, 1) := eX12_lay_303.2.2.2.1
theorem dX12_lay_308 : decode cX12_lay 308 = .ok (.getfield 35, 3) := eX12_lay_303.2.2.2.2.1
theorem dX12_lay_311 : decode cX12_lay 311 = .ok (.bipush 6, 2) := eX12_lay_303.2.2.2.2.2.1
theorem dX12_lay_313 : decode cX12_lay 313 = .ok (.iaload, 1) := eX12_lay_303.2.2.2.2.2.2.1
theorem dX12_lay_314 : decode cX12_lay 314 = .ok (.iload 8, 2) := eX12_lay_303.2.2.2.2.2.2.2.1
theorem eX12_lay_316 : decode cX12_lay 316 = .ok (.invokevirtual 276, 3) ∧ decode cX12_lay 319 = .ok (.if_icmp .le 10, 3) ∧ decode cX12_lay 322 = .ok (.aload_n 0, 1) ∧ decode cX12_lay 323 = .ok (.bipush 9, 2) ∧ decode cX12_lay 325 = .ok (.invokevirtual 284, 3) ∧ decode cX12_lay 328 = .ok (.ireturn, 1) ∧ decode cX12_lay 329 = .ok (.iinc 8 1, 3) ∧ decode cX12_lay 332 = .ok (.goto (-40), 3) ∧ True := dkl_ok (c := cX12_lay) [(.invokevirtual 276, 3), (.if_icmp .le 10, 3), (.aload_n 0, 1), (.bipush 9, 2), (.invokevirtual 284, 3), (.ireturn, 1), (.iinc 8 1, 3), (.goto (-40), 3)] 316 (by decide +kernel)
theorem dX12_lay_316 : decode cX12_lay 316 = .ok (.invokevirtual 276, 3) := eX12_lay_316.1
theorem dX12_lay_319 : decode cX12_lay 319 = .ok (.if_icmp .le 10, 3) := eX12_lay_316.2.1
theorem dX12_lay_322 : decode cX12_lay 322 = .ok (.aload_n 0, 1) := eX12_lay_316.2.2.1
theorem dX12_lay_323 : decode cX12_lay 323 = .ok (.bipush 9, 2) := eX12_lay_316.2.2.2.1
theorem dX12_lay_325 : decode cX12_lay 325 = .ok (.invokevirtual 284, 3) := eX12_lay_316.2.2.2.2.1
theorem dX12_lay_328 : decode cX12_lay 328 = .ok (.ireturn, 1) := eX12_lay_316.2.2.2.2.2.1
theorem dX12_lay_329 : decode cX12_lay 329 = .ok (.iinc 8 1, 3) := eX12_lay_316.2.2.2.2.2.2.1
theorem dX12_lay_332 : decode cX12_lay 332 = .ok (.goto (-40), 3) := eX12_lay_316.2.2.2.2.2.2.2.1
theorem eX12_lay_335 : decode cX12_lay 335 = .ok (.aload_n 0, 1) ∧ decode cX12_lay 336 = .ok (.aload_n 0, 1) ∧ decode cX12_lay 337 = .ok (.getfield 35, 3) ∧ decode cX12_lay 340 = .ok (.bipush 6, 2) ∧ decode cX12_lay 342 = .ok (.iaload, 1) ∧ decode cX12_lay 343 = .ok (.aload_n 0, 1) ∧ decode cX12_lay 344 = .ok (.getfield 47, 3) ∧ decode cX12_lay 347 = .ok (.invokevirtual 311, 3) ∧ True := dkl_ok (c := cX12_lay) [(.aload_n 0, 1), (.aload_n 0, 1), (.getfield 35, 3), (.bipush 6, 2), (.iaload, 1), (.aload_n 0, 1), (.getfield 47, 3), (.invokevirtual 311, 3)] 335 (by decide +kernel)
theorem dX12_lay_335 : decode cX12_lay 335 = .ok (.aload_n 0, 1) := eX12_lay_335.1
theorem dX12_lay_336 : decode cX12_lay 336 = .ok (.aload_n 0, 1) := eX12_lay_335.2.1
theorem dX12_lay_337 : decode cX12_lay 337 = .ok (.getfield 35, 3) := eX12_lay_335.2.2.1
theorem dX12_lay_340 : decode cX12_lay 340 = .ok (.bipush 6, 2) := eX12_lay_335.2.2.2.1
theorem dX12_lay_342 : decode cX12_lay 342 = .ok (.iaload, 1) := eX12_lay_335.2.2.2.2.1
theorem dX12_lay_343 : decode cX12_lay 343 = .ok (.aload_n 0, 1) := eX12_lay_335.2.2.2.2.2.1
theorem dX12_lay_344 : decode cX12_lay 344 = .ok (.getfield 47, 3) := eX12_lay_335.2.2.2.2.2.2.1
theorem dX12_lay_347 : decode cX12_lay 347 = .ok (.invokevirtual 311, 3) := eX12_lay_335.2.2.2.2.2.2.2.1
theorem eX12_lay_350 : decode cX12_lay 350 = .ok (.aload_n 0, 1) ∧ decode cX12_lay 351 = .ok (.invokevirtual 287, 3) ∧ decode cX12_lay 354 = .ok (.ireturn, 1) ∧ True := dkl_ok (c := cX12_lay) [(.aload_n 0, 1), (.invokevirtual 287, 3), (.ireturn, 1)] 350 (by decide +kernel)
theorem dX12_lay_350 : decode cX12_lay 350 = .ok (.aload_n 0, 1) := eX12_lay_350.1
theorem dX12_lay_351 : decode cX12_lay 351 = .ok (.invokevirtual 287, 3) := eX12_lay_350.2.1
theorem dX12_lay_354 : decode cX12_lay 354 = .ok (.ireturn, 1) := eX12_lay_350.2.2.1
theorem eX12_leaves_0 : decode cX12_leaves 0 = .ok (.aload_n 0, 1) ∧ decode cX12_leaves 1 = .ok (.getfield 35, 3) ∧ decode cX12_leaves 4 = .ok (.bipush 6, 2) ∧ decode cX12_leaves 6 = .ok (.iaload, 1) ∧ decode cX12_leaves 7 = .ok (.istore_n 1, 1) ∧ decode cX12_leaves 8 = .ok (.aload_n 0, 1) ∧ decode cX12_leaves 9 = .ok (.getfield 35, 3) ∧ decode cX12_leaves 12 = .ok (.bipush 7, 2) ∧ True := dkl_ok (c := cX12_leaves) [(.aload_n 0, 1), (.getfield 35, 3), (.bipush 6, 2), (.iaload, 1), (.istore_n 1, 1), (.aload_n 0, 1), (.getfield 35, 3), (.bipush 7, 2)] 0 (by decide +kernel)
theorem dX12_leaves_0 : decode cX12_leaves 0 = .ok (.aload_n 0, 1) := eX12_leaves_0.1
theorem dX12_leaves_1 : decode cX12_leaves 1 = .ok (.getfield 35, 3) := eX12_leaves_0.2.1
theorem dX12_leaves_4 : decode cX12_leaves 4 = .ok (.bipush 6, 2) := eX12_leaves_0.2.2.1
theorem dX12_leaves_6 : decode cX12_leaves 6 = .ok (.iaload, 1) := eX12_leaves_0.2.2.2.1
theorem dX12_leaves_7 : decode cX12_leaves 7 = .ok (.istore_n 1, 1) := eX12_leaves_0.2.2.2.2.1
theorem dX12_leaves_8 : decode cX12_leaves 8 = .ok (.aload_n 0, 1) := eX12_leaves_0.2.2.2.2.2.1
theorem dX12_leaves_9 : decode cX12_leaves 9 = .ok (.getfield 35, 3) := eX12_leaves_0.2.2.2.2.2.2.1
theorem dX12_leaves_12 : decode cX12_leaves 12 = .ok (.bipush 7, 2) := eX12_leaves_0.2.2.2.2.2.2.2.1
theorem eX12_leaves_14 : decode cX12_leaves 14 = .ok (.iconst 0, 1) ∧ decode cX12_leaves 15 = .ok (.iastore, 1) ∧ decode cX12_leaves 16 = .ok (.aload_n 0, 1) ∧ decode cX12_leaves 17 = .ok (.iload_n 1, 1) ∧ decode cX12_leaves 18 = .ok (.invokevirtual 293, 3) ∧ decode cX12_leaves 21 = .ok (.ifCond .ne 11, 3) ∧ decode cX12_leaves 24 = .ok (.aload_n 0, 1) ∧ decode cX12_leaves 25 = .ok (.getfield 35, 3) ∧ True := dkl_ok (c := cX12_leaves) [(.iconst 0, 1), (.iastore, 1), (.aload_n 0, 1), (.iload_n 1, 1), (.invokevirtual 293, 3), (.ifCond .ne 11, 3), (.aload_n 0, 1), (.getfield 35, 3)] 14 (by decide +kernel)
theorem dX12_leaves_14 : decode cX12_leaves 14 = .ok (.iconst 0, 1) := eX12_leaves_14.1
theorem dX12_leaves_15 : decode cX12_leaves 15 = .ok (.iastore, 1) := eX12_leaves_14.2.1
theorem dX12_leaves_16 : decode cX12_leaves 16 = .ok (.aload_n 0, 1) := eX12_leaves_14.2.2.1
theorem dX12_leaves_17 : decode cX12_leaves 17 = .ok (.iload_n 1, 1) := eX12_leaves_14.2.2.2.1
theorem dX12_leaves_18 : decode cX12_leaves 18 = .ok (.invokevirtual 293, 3) := eX12_leaves_14.2.2.2.2.1
theorem dX12_leaves_21 : decode cX12_leaves 21 = .ok (.ifCond .ne 11, 3) := eX12_leaves_14.2.2.2.2.2.1
theorem dX12_leaves_24 : decode cX12_leaves 24 = .ok (.aload_n 0, 1) := eX12_leaves_14.2.2.2.2.2.2.1
theorem dX12_leaves_25 : decode cX12_leaves 25 = .ok (.getfield 35, 3) := eX12_leaves_14.2.2.2.2.2.2.2.1
theorem eX12_leaves_28 : decode cX12_leaves 28 = .ok (.bipush 8, 2) ∧ decode cX12_leaves 30 = .ok (.iload_n 1, 1) ∧ decode cX12_leaves 31 = .ok (.iastore, 1) ∧ decode cX12_leaves 32 = .ok (.aload_n 0, 1) ∧ decode cX12_leaves 33 = .ok (.getfield 35, 3) ∧ decode cX12_leaves 36 = .ok (.iconst 5, 1) ∧ decode cX12_leaves 37 = .ok (.aload_n 0, 1) ∧ decode cX12_leaves 38 = .ok (.iconst 1, 1) ∧ True := dkl_ok (c := cX12_leaves) [(.bipush 8, 2), (.iload_n 1, 1), (.iastore, 1), (.aload_n 0, 1), (.getfield 35, 3), (.iconst 5, 1), (.aload_n 0, 1), (.iconst 1, 1)] 28 (by decide +kernel)
theorem dX12_leaves_28 : decode cX12_leaves 28 = .ok (.bipush 8, 2) := eX12_leaves_28.1
theorem dX12_leaves_30 : decode cX12_leaves 30 = .ok (.iload_n 1, 1) := eX12_leaves_28.2.1
theorem dX12_leaves_31 : decode cX12_leaves 31 = .ok (.iastore, 1) := eX12_leaves_28.2.2.1
theorem dX12_leaves_32 : decode cX12_leaves 32 = .ok (.aload_n 0, 1) := eX12_leaves_28.2.2.2.1
theorem dX12_leaves_33 : decode cX12_leaves 33 = .ok (.getfield 35, 3) := eX12_leaves_28.2.2.2.2.1
theorem dX12_leaves_36 : decode cX12_leaves 36 = .ok (.iconst 5, 1) := eX12_leaves_28.2.2.2.2.2.1
theorem dX12_leaves_37 : decode cX12_leaves 37 = .ok (.aload_n 0, 1) := eX12_leaves_28.2.2.2.2.2.2.1
theorem dX12_leaves_38 : decode cX12_leaves 38 = .ok (.iconst 1, 1) := eX12_leaves_28.2.2.2.2.2.2.2.1
theorem eX12_leaves_39 : decode cX12_leaves 39 = .ok (.invokevirtual 315, 3) ∧ decode cX12_leaves 42 = .ok (.iastore, 1) ∧ decode cX12_leaves 43 = .ok (.aload_n 0, 1) ∧ decode cX12_leaves 44 = .ok (.getfield 35, 3) ∧ decode cX12_leaves 47 = .ok (.bipush 6, 2) ∧ decode cX12_leaves 49 = .ok (.aload_n 0, 1) ∧ decode cX12_leaves 50 = .ok (.iload_n 1, 1) ∧ decode cX12_leaves 51 = .ok (.invokevirtual 319, 3) ∧ True := dkl_ok (c := cX12_leaves) [(.invokevirtual 315, 3), (.iastore, 1), (.aload_n 0, 1), (.getfield 35, 3), (.bipush 6, 2), (.aload_n 0, 1), (.iload_n 1, 1), (.invokevirtual 319, 3)] 39 (by decide +kernel)
theorem dX12_leaves_39 : decode cX12_leaves 39 = .ok (.invokevirtual 315, 3) := eX12_leaves_39.1
theorem dX12_leaves_42 : decode cX12_leaves 42 = .ok (.iastore, 1) := eX12_leaves_39.2.1
theorem dX12_leaves_43 : decode cX12_leaves 43 = .ok (.aload_n 0, 1) := eX12_leaves_39.2.2.1
theorem dX12_leaves_44 : decode cX12_leaves 44 = .ok (.getfield 35, 3) := eX12_leaves_39.2.2.2.1
theorem dX12_leaves_47 : decode cX12_leaves 47 = .ok (.bipush 6, 2) := eX12_leaves_39.2.2.2.2.1
theorem dX12_leaves_49 : decode cX12_leaves 49 = .ok (.aload_n 0, 1) := eX12_leaves_39.2.2.2.2.2.1
theorem dX12_leaves_50 : decode cX12_leaves 50 = .ok (.iload_n 1, 1) := eX12_leaves_39.2.2.2.2.2.2.1
theorem dX12_leaves_51 : decode cX12_leaves 51 = .ok (.invokevirtual 319, 3) := eX12_leaves_39.2.2.2.2.2.2.2.1
theorem eX12_leaves_54 : decode cX12_leaves 54 = .ok (.iastore, 1) ∧ decode cX12_leaves 55 = .ok (.return_, 1) ∧ True := dkl_ok (c := cX12_leaves) [(.iastore, 1), (.return_, 1)] 54 (by decide +kernel)
theorem dX12_leaves_54 : decode cX12_leaves 54 = .ok (.iastore, 1) := eX12_leaves_54.1
theorem dX12_leaves_55 : decode cX12_leaves 55 = .ok (.return_, 1) := eX12_leaves_54.2.1
theorem eX12_leave_0 : decode cX12_leave 0 = .ok (.aload_n 0, 1) ∧ decode cX12_leave 1 = .ok (.iconst 0, 1) ∧ decode cX12_leave 2 = .ok (.putfield 59, 3) ∧ decode cX12_leave 5 = .ok (.aload_n 0, 1) ∧ decode cX12_leave 6 = .ok (.iconst 0, 1) ∧ decode cX12_leave 7 = .ok (.putfield 62, 3) ∧ decode cX12_leave 10 = .ok (.aload_n 0, 1) ∧ decode cX12_leave 11 = .ok (.getfield 35, 3) ∧ True := dkl_ok (c := cX12_leave) [(.aload_n 0, 1), (.iconst 0, 1), (.putfield 59, 3), (.aload_n 0, 1), (.iconst 0, 1), (.putfield 62, 3), (.aload_n 0, 1), (.getfield 35, 3)] 0 (by decide +kernel)
theorem dX12_leave_0 : decode cX12_leave 0 = .ok (.aload_n 0, 1) := eX12_leave_0.1
theorem dX12_leave_1 : decode cX12_leave 1 = .ok (.iconst 0, 1) := eX12_leave_0.2.1
theorem dX12_leave_2 : decode cX12_leave 2 = .ok (.putfield 59, 3) := eX12_leave_0.2.2.1
theorem dX12_leave_5 : decode cX12_leave 5 = .ok (.aload_n 0, 1) := eX12_leave_0.2.2.2.1
theorem dX12_leave_6 : decode cX12_leave 6 = .ok (.iconst 0, 1) := eX12_leave_0.2.2.2.2.1
theorem dX12_leave_7 : decode cX12_leave 7 = .ok (.putfield 62, 3) := eX12_leave_0.2.2.2.2.2.1
theorem dX12_leave_10 : decode cX12_leave 10 = .ok (.aload_n 0, 1) := eX12_leave_0.2.2.2.2.2.2.1
theorem dX12_leave_11 : decode cX12_leave 11 = .ok (.getfield 35, 3) := eX12_leave_0.2.2.2.2.2.2.2.1
theorem eX12_leave_14 : decode cX12_leave 14 = .ok (.bipush 7, 2) ∧ decode cX12_leave 16 = .ok (.iaload, 1) ∧ decode cX12_leave 17 = .ok (.ifCond .ne 10, 3) ∧ decode cX12_leave 20 = .ok (.aload_n 0, 1) ∧ decode cX12_leave 21 = .ok (.bipush 8, 2) ∧ decode cX12_leave 23 = .ok (.invokevirtual 284, 3) ∧ decode cX12_leave 26 = .ok (.ireturn, 1) ∧ decode cX12_leave 27 = .ok (.aload_n 0, 1) ∧ True := dkl_ok (c := cX12_leave) [(.bipush 7, 2), (.iaload, 1), (.ifCond .ne 10, 3), (.aload_n 0, 1), (.bipush 8, 2), (.invokevirtual 284, 3), (.ireturn, 1), (.aload_n 0, 1)] 14 (by decide +kernel)
theorem dX12_leave_14 : decode cX12_leave 14 = .ok (.bipush 7, 2) := eX12_leave_14.1
theorem dX12_leave_16 : decode cX12_leave 16 = .ok (.iaload, 1) := eX12_leave_14.2.1
theorem dX12_leave_17 : decode cX12_leave 17 = .ok (.ifCond .ne 10, 3) := eX12_leave_14.2.2.1
theorem dX12_leave_20 : decode cX12_leave 20 = .ok (.aload_n 0, 1) := eX12_leave_14.2.2.2.1
theorem dX12_leave_21 : decode cX12_leave 21 = .ok (.bipush 8, 2) := eX12_leave_14.2.2.2.2.1
theorem dX12_leave_23 : decode cX12_leave 23 = .ok (.invokevirtual 284, 3) := eX12_leave_14.2.2.2.2.2.1
theorem dX12_leave_26 : decode cX12_leave 26 = .ok (.ireturn, 1) := eX12_leave_14.2.2.2.2.2.2.1
theorem dX12_leave_27 : decode cX12_leave 27 = .ok (.aload_n 0, 1) := eX12_leave_14.2.2.2.2.2.2.2.1
theorem eX12_leave_28 : decode cX12_leave 28 = .ok (.invokevirtual 322, 3) ∧ decode cX12_leave 31 = .ok (.aload_n 0, 1) ∧ decode cX12_leave 32 = .ok (.getfield 35, 3) ∧ decode cX12_leave 35 = .ok (.bipush 6, 2) ∧ decode cX12_leave 37 = .ok (.iaload, 1) ∧ decode cX12_leave 38 = .ok (.ireturn, 1) ∧ True := dkl_ok (c := cX12_leave) [(.invokevirtual 322, 3), (.aload_n 0, 1), (.getfield 35, 3), (.bipush 6, 2), (.iaload, 1), (.ireturn, 1)] 28 (by decide +kernel)
theorem dX12_leave_28 : decode cX12_leave 28 = .ok (.invokevirtual 322, 3) := eX12_leave_28.1
theorem dX12_leave_31 : decode cX12_leave 31 = .ok (.aload_n 0, 1) := eX12_leave_28.2.1
theorem dX12_leave_32 : decode cX12_leave 32 = .ok (.getfield 35, 3) := eX12_leave_28.2.2.1
theorem dX12_leave_35 : decode cX12_leave 35 = .ok (.bipush 6, 2) := eX12_leave_28.2.2.2.1
theorem dX12_leave_37 : decode cX12_leave 37 = .ok (.iaload, 1) := eX12_leave_28.2.2.2.2.1
theorem dX12_leave_38 : decode cX12_leave 38 = .ok (.ireturn, 1) := eX12_leave_28.2.2.2.2.2.1
theorem eX12_takes_0 : decode cX12_takes 0 = .ok (.iconst 0, 1) ∧ decode cX12_takes 1 = .ok (.istore_n 2, 1) ∧ decode cX12_takes 2 = .ok (.iload_n 2, 1) ∧ decode cX12_takes 3 = .ok (.aload_n 0, 1) ∧ decode cX12_takes 4 = .ok (.getfield 35, 3) ∧ decode cX12_takes 7 = .ok (.bipush 9, 2) ∧ decode cX12_takes 9 = .ok (.iaload, 1) ∧ decode cX12_takes 10 = .ok (.if_icmp .ge 64, 3) ∧ True := dkl_ok (c := cX12_takes) [(.iconst 0, 1), (.istore_n 2, 1), (.iload_n 2, 1), (.aload_n 0, 1), (.getfield 35, 3), (.bipush 9, 2), (.iaload, 1), (.if_icmp .ge 64, 3)] 0 (by decide +kernel)
theorem dX12_takes_0 : decode cX12_takes 0 = .ok (.iconst 0, 1) := eX12_takes_0.1
theorem dX12_takes_1 : decode cX12_takes 1 = .ok (.istore_n 2, 1) := eX12_takes_0.2.1
theorem dX12_takes_2 : decode cX12_takes 2 = .ok (.iload_n 2, 1) := eX12_takes_0.2.2.1
theorem dX12_takes_3 : decode cX12_takes 3 = .ok (.aload_n 0, 1) := eX12_takes_0.2.2.2.1
theorem dX12_takes_4 : decode cX12_takes 4 = .ok (.getfield 35, 3) := eX12_takes_0.2.2.2.2.1
theorem dX12_takes_7 : decode cX12_takes 7 = .ok (.bipush 9, 2) := eX12_takes_0.2.2.2.2.2.1
theorem dX12_takes_9 : decode cX12_takes 9 = .ok (.iaload, 1) := eX12_takes_0.2.2.2.2.2.2.1
theorem dX12_takes_10 : decode cX12_takes 10 = .ok (.if_icmp .ge 64, 3) := eX12_takes_0.2.2.2.2.2.2.2.1
theorem eX12_takes_13 : decode cX12_takes 13 = .ok (.iload_n 2, 1) ∧ decode cX12_takes 14 = .ok (.invokestatic 279, 3) ∧ decode cX12_takes 17 = .ok (.istore_n 3, 1) ∧ decode cX12_takes 18 = .ok (.iconst 0, 1) ∧ decode cX12_takes 19 = .ok (.istore 4, 2) ∧ decode cX12_takes 21 = .ok (.iload 4, 2) ∧ decode cX12_takes 23 = .ok (.aload_n 0, 1) ∧ decode cX12_takes 24 = .ok (.getfield 35, 3) ∧ True := dkl_ok (c := cX12_takes) [(.iload_n 2, 1), (.invokestatic 279, 3), (.istore_n 3, 1), (.iconst 0, 1), (.istore 4, 2), (.iload 4, 2), (.aload_n 0, 1), (.getfield 35, 3)] 13 (by decide +kernel)
theorem dX12_takes_13 : decode cX12_takes 13 = .ok (.iload_n 2, 1) := eX12_takes_13.1
theorem dX12_takes_14 : decode cX12_takes 14 = .ok (.invokestatic 279, 3) := eX12_takes_13.2.1
theorem dX12_takes_17 : decode cX12_takes 17 = .ok (.istore_n 3, 1) := eX12_takes_13.2.2.1
theorem dX12_takes_18 : decode cX12_takes 18 = .ok (.iconst 0, 1) := eX12_takes_13.2.2.2.1
theorem dX12_takes_19 : decode cX12_takes 19 = .ok (.istore 4, 2) := eX12_takes_13.2.2.2.2.1
theorem dX12_takes_21 : decode cX12_takes 21 = .ok (.iload 4, 2) := eX12_takes_13.2.2.2.2.2.1
theorem dX12_takes_23 : decode cX12_takes 23 = .ok (.aload_n 0, 1) := eX12_takes_13.2.2.2.2.2.2.1
theorem dX12_takes_24 : decode cX12_takes 24 = .ok (.getfield 35, 3) := eX12_takes_13.2.2.2.2.2.2.2.1
theorem eX12_takes_27 : decode cX12_takes 27 = .ok (.iload_n 3, 1) ∧ decode cX12_takes 28 = .ok (.iconst 2, 1) ∧ decode cX12_takes 29 = .ok (.iadd, 1) ∧ decode cX12_takes 30 = .ok (.iaload, 1) ∧ decode cX12_takes 31 = .ok (.if_icmp .ge 37, 3) ∧ decode cX12_takes 34 = .ok (.aload_n 0, 1) ∧ decode cX12_takes 35 = .ok (.getfield 35, 3) ∧ decode cX12_takes 38 = .ok (.bipush 34, 2) ∧ True := dkl_ok (c := cX12_takes) [(.iload_n 3, 1), (.iconst 2, 1), (.iadd, 1), (.iaload, 1), (.if_icmp .ge 37, 3), (.aload_n 0, 1), (.getfield 35, 3), (.bipush 34, 2)] 27 (by decide +kernel)
theorem dX12_takes_27 : decode cX12_takes 27 = .ok (.iload_n 3, 1) := eX12_takes_27.1
theorem dX12_takes_28 : decode cX12_takes 28 = .ok (.iconst 2, 1) := eX12_takes_27.2.1
theorem dX12_takes_29 : decode cX12_takes 29 = .ok (.iadd, 1) := eX12_takes_27.2.2.1
theorem dX12_takes_30 : decode cX12_takes 30 = .ok (.iaload, 1) := eX12_takes_27.2.2.2.1
theorem dX12_takes_31 : decode cX12_takes 31 = .ok (.if_icmp .ge 37, 3) := eX12_takes_27.2.2.2.2.1
theorem dX12_takes_34 : decode cX12_takes 34 = .ok (.aload_n 0, 1) := eX12_takes_27.2.2.2.2.2.1
theorem dX12_takes_35 : decode cX12_takes 35 = .ok (.getfield 35, 3) := eX12_takes_27.2.2.2.2.2.2.1
theorem dX12_takes_38 : decode cX12_takes 38 = .ok (.bipush 34, 2) := eX12_takes_27.2.2.2.2.2.2.2.1
theorem eX12_takes_40 : decode cX12_takes 40 = .ok (.bipush 10, 2) ∧ decode cX12_takes 42 = .ok (.iload_n 1, 1) ∧ decode cX12_takes 43 = .ok (.imul, 1) ∧ decode cX12_takes 44 = .ok (.iadd, 1) ∧ decode cX12_takes 45 = .ok (.aload_n 0, 1) ∧ decode cX12_takes 46 = .ok (.getfield 35, 3) ∧ decode cX12_takes 49 = .ok (.iload_n 3, 1) ∧ decode cX12_takes 50 = .ok (.iconst 3, 1) ∧ True := dkl_ok (c := cX12_takes) [(.bipush 10, 2), (.iload_n 1, 1), (.imul, 1), (.iadd, 1), (.aload_n 0, 1), (.getfield 35, 3), (.iload_n 3, 1), (.iconst 3, 1)] 40 (by decide +kernel)
theorem dX12_takes_40 : decode cX12_takes 40 = .ok (.bipush 10, 2) := eX12_takes_40.1
theorem dX12_takes_42 : decode cX12_takes 42 = .ok (.iload_n 1, 1) := eX12_takes_40.2.1
theorem dX12_takes_43 : decode cX12_takes 43 = .ok (.imul, 1) := eX12_takes_40.2.2.1
theorem dX12_takes_44 : decode cX12_takes 44 = .ok (.iadd, 1) := eX12_takes_40.2.2.2.1
theorem dX12_takes_45 : decode cX12_takes 45 = .ok (.aload_n 0, 1) := eX12_takes_40.2.2.2.2.1
theorem dX12_takes_46 : decode cX12_takes 46 = .ok (.getfield 35, 3) := eX12_takes_40.2.2.2.2.2.1
theorem dX12_takes_49 : decode cX12_takes 49 = .ok (.iload_n 3, 1) := eX12_takes_40.2.2.2.2.2.2.1
theorem dX12_takes_50 : decode cX12_takes 50 = .ok (.iconst 3, 1) := eX12_takes_40.2.2.2.2.2.2.2.1
theorem eX12_takes_51 : decode cX12_takes 51 = .ok (.iadd, 1) ∧ decode cX12_takes 52 = .ok (.iload 4, 2) ∧ decode cX12_takes 54 = .ok (.iadd, 1) ∧ decode cX12_takes 55 = .ok (.iaload, 1) ∧ decode cX12_takes 56 = .ok (.iadd, 1) ∧ decode cX12_takes 57 = .ok (.dup2, 1) ∧ decode cX12_takes 58 = .ok (.iaload, 1) ∧ decode cX12_takes 59 = .ok (.iconst 1, 1) ∧ True := dkl_ok (c := cX12_takes) [(.iadd, 1), (.iload 4, 2), (.iadd, 1), (.iaload, 1), (.iadd, 1), (.dup2, 1), (.iaload, 1), (.iconst 1, 1)] 51 (by decide +kernel)
theorem dX12_takes_51 : decode cX12_takes 51 = .ok (.iadd, 1) := eX12_takes_51.1
theorem dX12_takes_52 : decode cX12_takes 52 = .ok (.iload 4, 2) := eX12_takes_51.2.1
theorem dX12_takes_54 : decode cX12_takes 54 = .ok (.iadd, 1) := eX12_takes_51.2.2.1
theorem dX12_takes_55 : decode cX12_takes 55 = .ok (.iaload, 1) := eX12_takes_51.2.2.2.1
theorem dX12_takes_56 : decode cX12_takes 56 = .ok (.iadd, 1) := eX12_takes_51.2.2.2.2.1
theorem dX12_takes_57 : decode cX12_takes 57 = .ok (.dup2, 1) := eX12_takes_51.2.2.2.2.2.1
theorem dX12_takes_58 : decode cX12_takes 58 = .ok (.iaload, 1) := eX12_takes_51.2.2.2.2.2.2.1
theorem dX12_takes_59 : decode cX12_takes 59 = .ok (.iconst 1, 1) := eX12_takes_51.2.2.2.2.2.2.2.1
theorem eX12_takes_60 : decode cX12_takes 60 = .ok (.iadd, 1) ∧ decode cX12_takes 61 = .ok (.iastore, 1) ∧ decode cX12_takes 62 = .ok (.iinc 4 1, 3) ∧ decode cX12_takes 65 = .ok (.goto (-44), 3) ∧ decode cX12_takes 68 = .ok (.iinc 2 1, 3) ∧ decode cX12_takes 71 = .ok (.goto (-69), 3) ∧ decode cX12_takes 74 = .ok (.aload_n 0, 1) ∧ decode cX12_takes 75 = .ok (.getfield 35, 3) ∧ True := dkl_ok (c := cX12_takes) [(.iadd, 1), (.iastore, 1), (.iinc 4 1, 3), (.goto (-44), 3), (.iinc 2 1, 3), (.goto (-69), 3), (.aload_n 0, 1), (.getfield 35, 3)] 60 (by decide +kernel)
theorem dX12_takes_60 : decode cX12_takes 60 = .ok (.iadd, 1) := eX12_takes_60.1
theorem dX12_takes_61 : decode cX12_takes 61 = .ok (.iastore, 1) := eX12_takes_60.2.1
theorem dX12_takes_62 : decode cX12_takes 62 = .ok (.iinc 4 1, 3) := eX12_takes_60.2.2.1
theorem dX12_takes_65 : decode cX12_takes 65 = .ok (.goto (-44), 3) := eX12_takes_60.2.2.2.1
theorem dX12_takes_68 : decode cX12_takes 68 = .ok (.iinc 2 1, 3) := eX12_takes_60.2.2.2.2.1
theorem dX12_takes_71 : decode cX12_takes 71 = .ok (.goto (-69), 3) := eX12_takes_60.2.2.2.2.2.1
theorem dX12_takes_74 : decode cX12_takes 74 = .ok (.aload_n 0, 1) := eX12_takes_60.2.2.2.2.2.2.1
theorem dX12_takes_75 : decode cX12_takes 75 = .ok (.getfield 35, 3) := eX12_takes_60.2.2.2.2.2.2.2.1
theorem eX12_takes_78 : decode cX12_takes 78 = .ok (.bipush 9, 2) ∧ decode cX12_takes 80 = .ok (.iconst 0, 1) ∧ decode cX12_takes 81 = .ok (.iastore, 1) ∧ decode cX12_takes 82 = .ok (.return_, 1) ∧ True := dkl_ok (c := cX12_takes) [(.bipush 9, 2), (.iconst 0, 1), (.iastore, 1), (.return_, 1)] 78 (by decide +kernel)
theorem dX12_takes_78 : decode cX12_takes 78 = .ok (.bipush 9, 2) := eX12_takes_78.1
theorem dX12_takes_80 : decode cX12_takes 80 = .ok (.iconst 0, 1) := eX12_takes_78.2.1
theorem dX12_takes_81 : decode cX12_takes 81 = .ok (.iastore, 1) := eX12_takes_78.2.2.1
theorem dX12_takes_82 : decode cX12_takes 82 = .ok (.return_, 1) := eX12_takes_78.2.2.2.1
theorem eX12_doubts_0 : decode cX12_doubts 0 = .ok (.aload_n 0, 1) ∧ decode cX12_doubts 1 = .ok (.getfield 35, 3) ∧ decode cX12_doubts 4 = .ok (.bipush 6, 2) ∧ decode cX12_doubts 6 = .ok (.iaload, 1) ∧ decode cX12_doubts 7 = .ok (.istore_n 2, 1) ∧ decode cX12_doubts 8 = .ok (.aload_n 0, 1) ∧ decode cX12_doubts 9 = .ok (.aload_n 0, 1) ∧ decode cX12_doubts 10 = .ok (.getfield 35, 3) ∧ True := dkl_ok (c := cX12_doubts) [(.aload_n 0, 1), (.getfield 35, 3), (.bipush 6, 2), (.iaload, 1), (.istore_n 2, 1), (.aload_n 0, 1), (.aload_n 0, 1), (.getfield 35, 3)] 0 (by decide +kernel)
theorem dX12_doubts_0 : decode cX12_doubts 0 = .ok (.aload_n 0, 1) := eX12_doubts_0.1
theorem dX12_doubts_1 : decode cX12_doubts 1 = .ok (.getfield 35, 3) := eX12_doubts_0.2.1
theorem dX12_doubts_4 : decode cX12_doubts 4 = .ok (.bipush 6, 2) := eX12_doubts_0.2.2.1
theorem dX12_doubts_6 : decode cX12_doubts 6 = .ok (.iaload, 1) := eX12_doubts_0.2.2.2.1
theorem dX12_doubts_7 : decode cX12_doubts 7 = .ok (.istore_n 2, 1) := eX12_doubts_0.2.2.2.2.1
theorem dX12_doubts_8 : decode cX12_doubts 8 = .ok (.aload_n 0, 1) := eX12_doubts_0.2.2.2.2.2.1
theorem dX12_doubts_9 : decode cX12_doubts 9 = .ok (.aload_n 0, 1) := eX12_doubts_0.2.2.2.2.2.2.1
theorem dX12_doubts_10 : decode cX12_doubts 10 = .ok (.getfield 35, 3) := eX12_doubts_0.2.2.2.2.2.2.2.1
theorem eX12_doubts_13 : decode cX12_doubts 13 = .ok (.bipush 9, 2) ∧ decode cX12_doubts 15 = .ok (.iaload, 1) ∧ decode cX12_doubts 16 = .ok (.iconst 1, 1) ∧ decode cX12_doubts 17 = .ok (.isub, 1) ∧ decode cX12_doubts 18 = .ok (.invokevirtual 305, 3) ∧ decode cX12_doubts 21 = .ok (.ifCond .ne 7, 3) ∧ decode cX12_doubts 24 = .ok (.iconst 1, 1) ∧ decode cX12_doubts 25 = .ok (.goto 4, 3) ∧ True := dkl_ok (c := cX12_doubts) [(.bipush 9, 2), (.iaload, 1), (.iconst 1, 1), (.isub, 1), (.invokevirtual 305, 3), (.ifCond .ne 7, 3), (.iconst 1, 1), (.goto 4, 3)] 13 (by decide +kernel)
theorem dX12_doubts_13 : decode cX12_doubts 13 = .ok (.bipush 9, 2) := eX12_doubts_13.1
theorem dX12_doubts_15 : decode cX12_doubts 15 = .ok (.iaload, 1) := eX12_doubts_13.2.1
theorem dX12_doubts_16 : decode cX12_doubts 16 = .ok (.iconst 1, 1) := eX12_doubts_13.2.2.1
theorem dX12_doubts_17 : decode cX12_doubts 17 = .ok (.isub, 1) := eX12_doubts_13.2.2.2.1
theorem dX12_doubts_18 : decode cX12_doubts 18 = .ok (.invokevirtual 305, 3) := eX12_doubts_13.2.2.2.2.1
theorem dX12_doubts_21 : decode cX12_doubts 21 = .ok (.ifCond .ne 7, 3) := eX12_doubts_13.2.2.2.2.2.1
theorem dX12_doubts_24 : decode cX12_doubts 24 = .ok (.iconst 1, 1) := eX12_doubts_13.2.2.2.2.2.2.1
theorem dX12_doubts_25 : decode cX12_doubts 25 = .ok (.goto 4, 3) := eX12_doubts_13.2.2.2.2.2.2.2.1
theorem eX12_doubts_28 : decode cX12_doubts 28 = .ok (.iconst 0, 1) ∧ decode cX12_doubts 29 = .ok (.istore_n 3, 1) ∧ decode cX12_doubts 30 = .ok (.aload_n 0, 1) ∧ decode cX12_doubts 31 = .ok (.getfield 35, 3) ∧ decode cX12_doubts 34 = .ok (.bipush 7, 2) ∧ decode cX12_doubts 36 = .ok (.iconst 0, 1) ∧ decode cX12_doubts 37 = .ok (.iastore, 1) ∧ decode cX12_doubts 38 = .ok (.aload_n 0, 1) ∧ True := dkl_ok (c := cX12_doubts) [(.iconst 0, 1), (.istore_n 3, 1), (.aload_n 0, 1), (.getfield 35, 3), (.bipush 7, 2), (.iconst 0, 1), (.iastore, 1), (.aload_n 0, 1)] 28 (by decide +kernel)
theorem dX12_doubts_28 : decode cX12_doubts 28 = .ok (.iconst 0, 1) := eX12_doubts_28.1
theorem dX12_doubts_29 : decode cX12_doubts 29 = .ok (.istore_n 3, 1) := eX12_doubts_28.2.1
theorem dX12_doubts_30 : decode cX12_doubts 30 = .ok (.aload_n 0, 1) := eX12_doubts_28.2.2.1
theorem dX12_doubts_31 : decode cX12_doubts 31 = .ok (.getfield 35, 3) := eX12_doubts_28.2.2.2.1
theorem dX12_doubts_34 : decode cX12_doubts 34 = .ok (.bipush 7, 2) := eX12_doubts_28.2.2.2.2.1
theorem dX12_doubts_36 : decode cX12_doubts 36 = .ok (.iconst 0, 1) := eX12_doubts_28.2.2.2.2.2.1
theorem dX12_doubts_37 : decode cX12_doubts 37 = .ok (.iastore, 1) := eX12_doubts_28.2.2.2.2.2.2.1
theorem dX12_doubts_38 : decode cX12_doubts 38 = .ok (.aload_n 0, 1) := eX12_doubts_28.2.2.2.2.2.2.2.1
theorem eX12_doubts_39 : decode cX12_doubts 39 = .ok (.getfield 35, 3) ∧ decode cX12_doubts 42 = .ok (.bipush 22, 2) ∧ decode cX12_doubts 44 = .ok (.iload_n 2, 1) ∧ decode cX12_doubts 45 = .ok (.iadd, 1) ∧ decode cX12_doubts 46 = .ok (.dup2, 1) ∧ decode cX12_doubts 47 = .ok (.iaload, 1) ∧ decode cX12_doubts 48 = .ok (.iconst 1, 1) ∧ decode cX12_doubts 49 = .ok (.iadd, 1) ∧ True := dkl_ok (c := cX12_doubts) [(.getfield 35, 3), (.bipush 22, 2), (.iload_n 2, 1), (.iadd, 1), (.dup2, 1), (.iaload, 1), (.iconst 1, 1), (.iadd, 1)] 39 (by decide +kernel)
theorem dX12_doubts_39 : decode cX12_doubts 39 = .ok (.getfield 35, 3) := eX12_doubts_39.1
theorem dX12_doubts_42 : decode cX12_doubts 42 = .ok (.bipush 22, 2) := eX12_doubts_39.2.1
theorem dX12_doubts_44 : decode cX12_doubts 44 = .ok (.iload_n 2, 1) := eX12_doubts_39.2.2.1
theorem dX12_doubts_45 : decode cX12_doubts 45 = .ok (.iadd, 1) := eX12_doubts_39.2.2.2.1
theorem dX12_doubts_46 : decode cX12_doubts 46 = .ok (.dup2, 1) := eX12_doubts_39.2.2.2.2.1
theorem dX12_doubts_47 : decode cX12_doubts 47 = .ok (.iaload, 1) := eX12_doubts_39.2.2.2.2.2.1
theorem dX12_doubts_48 : decode cX12_doubts 48 = .ok (.iconst 1, 1) := eX12_doubts_39.2.2.2.2.2.2.1
theorem dX12_doubts_49 : decode cX12_doubts 49 = .ok (.iadd, 1) := eX12_doubts_39.2.2.2.2.2.2.2.1
theorem eX12_doubts_50 : decode cX12_doubts 50 = .ok (.iastore, 1) ∧ decode cX12_doubts 51 = .ok (.aload_n 0, 1) ∧ decode cX12_doubts 52 = .ok (.getfield 35, 3) ∧ decode cX12_doubts 55 = .ok (.bipush 28, 2) ∧ decode cX12_doubts 57 = .ok (.iload_n 2, 1) ∧ decode cX12_doubts 58 = .ok (.iadd, 1) ∧ decode cX12_doubts 59 = .ok (.dup2, 1) ∧ decode cX12_doubts 60 = .ok (.iaload, 1) ∧ True := dkl_ok (c := cX12_doubts) [(.iastore, 1), (.aload_n 0, 1), (.getfield 35, 3), (.bipush 28, 2), (.iload_n 2, 1), (.iadd, 1), (.dup2, 1), (.iaload, 1)] 50 (by decide +kernel)
theorem dX12_doubts_50 : decode cX12_doubts 50 = .ok (.iastore, 1) := eX12_doubts_50.1
theorem dX12_doubts_51 : decode cX12_doubts 51 = .ok (.aload_n 0, 1) := eX12_doubts_50.2.1
theorem dX12_doubts_52 : decode cX12_doubts 52 = .ok (.getfield 35, 3) := eX12_doubts_50.2.2.1
theorem dX12_doubts_55 : decode cX12_doubts 55 = .ok (.bipush 28, 2) := eX12_doubts_50.2.2.2.1
theorem dX12_doubts_57 : decode cX12_doubts 57 = .ok (.iload_n 2, 1) := eX12_doubts_50.2.2.2.2.1
theorem dX12_doubts_58 : decode cX12_doubts 58 = .ok (.iadd, 1) := eX12_doubts_50.2.2.2.2.2.1
theorem dX12_doubts_59 : decode cX12_doubts 59 = .ok (.dup2, 1) := eX12_doubts_50.2.2.2.2.2.2.1
theorem dX12_doubts_60 : decode cX12_doubts 60 = .ok (.iaload, 1) := eX12_doubts_50.2.2.2.2.2.2.2.1
theorem eX12_doubts_61 : decode cX12_doubts 61 = .ok (.iload_n 3, 1) ∧ decode cX12_doubts 62 = .ok (.ifCond .eq 7, 3) ∧ decode cX12_doubts 65 = .ok (.iconst 0, 1) ∧ decode cX12_doubts 66 = .ok (.goto 4, 3) ∧ decode cX12_doubts 69 = .ok (.iconst 1, 1) ∧ decode cX12_doubts 70 = .ok (.iadd, 1) ∧ decode cX12_doubts 71 = .ok (.iastore, 1) ∧ decode cX12_doubts 72 = .ok (.iload_n 3, 1) ∧ True := dkl_ok (c := cX12_doubts) [(.iload_n 3, 1), (.ifCond .eq 7, 3), (.iconst 0, 1), (.goto 4, 3), (.iconst 1, 1), (.iadd, 1), (.iastore, 1), (.iload_n 3, 1)] 61 (by decide +kernel)
theorem dX12_doubts_61 : decode cX12_doubts 61 = .ok (.iload_n 3, 1) := eX12_doubts_61.1
theorem dX12_doubts_62 : decode cX12_doubts 62 = .ok (.ifCond .eq 7, 3) := eX12_doubts_61.2.1
theorem dX12_doubts_65 : decode cX12_doubts 65 = .ok (.iconst 0, 1) := eX12_doubts_61.2.2.1
theorem dX12_doubts_66 : decode cX12_doubts 66 = .ok (.goto 4, 3) := eX12_doubts_61.2.2.2.1
theorem dX12_doubts_69 : decode cX12_doubts 69 = .ok (.iconst 1, 1) := eX12_doubts_61.2.2.2.2.1
theorem dX12_doubts_70 : decode cX12_doubts 70 = .ok (.iadd, 1) := eX12_doubts_61.2.2.2.2.2.1
theorem dX12_doubts_71 : decode cX12_doubts 71 = .ok (.iastore, 1) := eX12_doubts_61.2.2.2.2.2.2.1
theorem dX12_doubts_72 : decode cX12_doubts 72 = .ok (.iload_n 3, 1) := eX12_doubts_61.2.2.2.2.2.2.2.1
theorem eX12_doubts_73 : decode cX12_doubts 73 = .ok (.ifCond .eq 19, 3) ∧ decode cX12_doubts 76 = .ok (.aload_n 0, 1) ∧ decode cX12_doubts 77 = .ok (.iload_n 2, 1) ∧ decode cX12_doubts 78 = .ok (.invokevirtual 293, 3) ∧ decode cX12_doubts 81 = .ok (.ifCond .ne 11, 3) ∧ decode cX12_doubts 84 = .ok (.aload_n 0, 1) ∧ decode cX12_doubts 85 = .ok (.getfield 35, 3) ∧ decode cX12_doubts 88 = .ok (.bipush 8, 2) ∧ True := dkl_ok (c := cX12_doubts) [(.ifCond .eq 19, 3), (.aload_n 0, 1), (.iload_n 2, 1), (.invokevirtual 293, 3), (.ifCond .ne 11, 3), (.aload_n 0, 1), (.getfield 35, 3), (.bipush 8, 2)] 73 (by decide +kernel)
theorem dX12_doubts_73 : decode cX12_doubts 73 = .ok (.ifCond .eq 19, 3) := eX12_doubts_73.1
theorem dX12_doubts_76 : decode cX12_doubts 76 = .ok (.aload_n 0, 1) := eX12_doubts_73.2.1
theorem dX12_doubts_77 : decode cX12_doubts 77 = .ok (.iload_n 2, 1) := eX12_doubts_73.2.2.1
theorem dX12_doubts_78 : decode cX12_doubts 78 = .ok (.invokevirtual 293, 3) := eX12_doubts_73.2.2.2.1
theorem dX12_doubts_81 : decode cX12_doubts 81 = .ok (.ifCond .ne 11, 3) := eX12_doubts_73.2.2.2.2.1
theorem dX12_doubts_84 : decode cX12_doubts 84 = .ok (.aload_n 0, 1) := eX12_doubts_73.2.2.2.2.2.1
theorem dX12_doubts_85 : decode cX12_doubts 85 = .ok (.getfield 35, 3) := eX12_doubts_73.2.2.2.2.2.2.1
theorem dX12_doubts_88 : decode cX12_doubts 88 = .ok (.bipush 8, 2) := eX12_doubts_73.2.2.2.2.2.2.2.1
theorem eX12_doubts_90 : decode cX12_doubts 90 = .ok (.iload_n 2, 1) ∧ decode cX12_doubts 91 = .ok (.iastore, 1) ∧ decode cX12_doubts 92 = .ok (.aload_n 0, 1) ∧ decode cX12_doubts 93 = .ok (.iload_n 3, 1) ∧ decode cX12_doubts 94 = .ok (.ifCond .eq 7, 3) ∧ decode cX12_doubts 97 = .ok (.iload_n 1, 1) ∧ decode cX12_doubts 98 = .ok (.goto 4, 3) ∧ decode cX12_doubts 101 = .ok (.iload_n 2, 1) ∧ True := dkl_ok (c := cX12_doubts) [(.iload_n 2, 1), (.iastore, 1), (.aload_n 0, 1), (.iload_n 3, 1), (.ifCond .eq 7, 3), (.iload_n 1, 1), (.goto 4, 3), (.iload_n 2, 1)] 90 (by decide +kernel)
theorem dX12_doubts_90 : decode cX12_doubts 90 = .ok (.iload_n 2, 1) := eX12_doubts_90.1
theorem dX12_doubts_91 : decode cX12_doubts 91 = .ok (.iastore, 1) := eX12_doubts_90.2.1
theorem dX12_doubts_92 : decode cX12_doubts 92 = .ok (.aload_n 0, 1) := eX12_doubts_90.2.2.1
theorem dX12_doubts_93 : decode cX12_doubts 93 = .ok (.iload_n 3, 1) := eX12_doubts_90.2.2.2.1
theorem dX12_doubts_94 : decode cX12_doubts 94 = .ok (.ifCond .eq 7, 3) := eX12_doubts_90.2.2.2.2.1
theorem dX12_doubts_97 : decode cX12_doubts 97 = .ok (.iload_n 1, 1) := eX12_doubts_90.2.2.2.2.2.1
theorem dX12_doubts_98 : decode cX12_doubts 98 = .ok (.goto 4, 3) := eX12_doubts_90.2.2.2.2.2.2.1
theorem dX12_doubts_101 : decode cX12_doubts 101 = .ok (.iload_n 2, 1) := eX12_doubts_90.2.2.2.2.2.2.2.1
theorem eX12_doubts_102 : decode cX12_doubts 102 = .ok (.invokevirtual 325, 3) ∧ decode cX12_doubts 105 = .ok (.aload_n 0, 1) ∧ decode cX12_doubts 106 = .ok (.getfield 35, 3) ∧ decode cX12_doubts 109 = .ok (.iconst 5, 1) ∧ decode cX12_doubts 110 = .ok (.aload_n 0, 1) ∧ decode cX12_doubts 111 = .ok (.iconst 0, 1) ∧ decode cX12_doubts 112 = .ok (.invokevirtual 315, 3) ∧ decode cX12_doubts 115 = .ok (.iastore, 1) ∧ True := dkl_ok (c := cX12_doubts) [(.invokevirtual 325, 3), (.aload_n 0, 1), (.getfield 35, 3), (.iconst 5, 1), (.aload_n 0, 1), (.iconst 0, 1), (.invokevirtual 315, 3), (.iastore, 1)] 102 (by decide +kernel)
theorem dX12_doubts_102 : decode cX12_doubts 102 = .ok (.invokevirtual 325, 3) := eX12_doubts_102.1
theorem dX12_doubts_105 : decode cX12_doubts 105 = .ok (.aload_n 0, 1) := eX12_doubts_102.2.1
theorem dX12_doubts_106 : decode cX12_doubts 106 = .ok (.getfield 35, 3) := eX12_doubts_102.2.2.1
theorem dX12_doubts_109 : decode cX12_doubts 109 = .ok (.iconst 5, 1) := eX12_doubts_102.2.2.2.1
theorem dX12_doubts_110 : decode cX12_doubts 110 = .ok (.aload_n 0, 1) := eX12_doubts_102.2.2.2.2.1
theorem dX12_doubts_111 : decode cX12_doubts 111 = .ok (.iconst 0, 1) := eX12_doubts_102.2.2.2.2.2.1
theorem dX12_doubts_112 : decode cX12_doubts 112 = .ok (.invokevirtual 315, 3) := eX12_doubts_102.2.2.2.2.2.2.1
theorem dX12_doubts_115 : decode cX12_doubts 115 = .ok (.iastore, 1) := eX12_doubts_102.2.2.2.2.2.2.2.1
theorem eX12_doubts_116 : decode cX12_doubts 116 = .ok (.aload_n 0, 1) ∧ decode cX12_doubts 117 = .ok (.getfield 35, 3) ∧ decode cX12_doubts 120 = .ok (.bipush 6, 2) ∧ decode cX12_doubts 122 = .ok (.iload_n 3, 1) ∧ decode cX12_doubts 123 = .ok (.ifCond .eq 7, 3) ∧ decode cX12_doubts 126 = .ok (.iload_n 2, 1) ∧ decode cX12_doubts 127 = .ok (.goto 4, 3) ∧ decode cX12_doubts 130 = .ok (.iload_n 1, 1) ∧ True := dkl_ok (c := cX12_doubts) [(.aload_n 0, 1), (.getfield 35, 3), (.bipush 6, 2), (.iload_n 3, 1), (.ifCond .eq 7, 3), (.iload_n 2, 1), (.goto 4, 3), (.iload_n 1, 1)] 116 (by decide +kernel)
theorem dX12_doubts_116 : decode cX12_doubts 116 = .ok (.aload_n 0, 1) := eX12_doubts_116.1
theorem dX12_doubts_117 : decode cX12_doubts 117 = .ok (.getfield 35, 3) := eX12_doubts_116.2.1
theorem dX12_doubts_120 : decode cX12_doubts 120 = .ok (.bipush 6, 2) := eX12_doubts_116.2.2.1
theorem dX12_doubts_122 : decode cX12_doubts 122 = .ok (.iload_n 3, 1) := eX12_doubts_116.2.2.2.1
theorem dX12_doubts_123 : decode cX12_doubts 123 = .ok (.ifCond .eq 7, 3) := eX12_doubts_116.2.2.2.2.1
theorem dX12_doubts_126 : decode cX12_doubts 126 = .ok (.iload_n 2, 1) := eX12_doubts_116.2.2.2.2.2.1
theorem dX12_doubts_127 : decode cX12_doubts 127 = .ok (.goto 4, 3) := eX12_doubts_116.2.2.2.2.2.2.1
theorem dX12_doubts_130 : decode cX12_doubts 130 = .ok (.iload_n 1, 1) := eX12_doubts_116.2.2.2.2.2.2.2.1
theorem eX12_doubts_131 : decode cX12_doubts 131 = .ok (.iastore, 1) ∧ decode cX12_doubts 132 = .ok (.iload_n 3, 1) ∧ decode cX12_doubts 133 = .ok (.ifCond .eq 7, 3) ∧ decode cX12_doubts 136 = .ok (.iload_n 1, 1) ∧ decode cX12_doubts 137 = .ok (.goto 4, 3) ∧ decode cX12_doubts 140 = .ok (.iload_n 2, 1) ∧ decode cX12_doubts 141 = .ok (.ireturn, 1) ∧ True := dkl_ok (c := cX12_doubts) [(.iastore, 1), (.iload_n 3, 1), (.ifCond .eq 7, 3), (.iload_n 1, 1), (.goto 4, 3), (.iload_n 2, 1), (.ireturn, 1)] 131 (by decide +kernel)
theorem dX12_doubts_131 : decode cX12_doubts 131 = .ok (.iastore, 1) := eX12_doubts_131.1
theorem dX12_doubts_132 : decode cX12_doubts 132 = .ok (.iload_n 3, 1) := eX12_doubts_131.2.1
theorem dX12_doubts_133 : decode cX12_doubts 133 = .ok (.ifCond .eq 7, 3) := eX12_doubts_131.2.2.1
theorem dX12_doubts_136 : decode cX12_doubts 136 = .ok (.iload_n 1, 1) := eX12_doubts_131.2.2.2.1
theorem dX12_doubts_137 : decode cX12_doubts 137 = .ok (.goto 4, 3) := eX12_doubts_131.2.2.2.2.1
theorem dX12_doubts_140 : decode cX12_doubts 140 = .ok (.iload_n 2, 1) := eX12_doubts_131.2.2.2.2.2.1
theorem dX12_doubts_141 : decode cX12_doubts 141 = .ok (.ireturn, 1) := eX12_doubts_131.2.2.2.2.2.2.1
theorem eX12_doubt_0 : decode cX12_doubt 0 = .ok (.aload_n 0, 1) ∧ decode cX12_doubt 1 = .ok (.iconst 0, 1) ∧ decode cX12_doubt 2 = .ok (.putfield 59, 3) ∧ decode cX12_doubt 5 = .ok (.aload_n 0, 1) ∧ decode cX12_doubt 6 = .ok (.iconst 0, 1) ∧ decode cX12_doubt 7 = .ok (.putfield 62, 3) ∧ decode cX12_doubt 10 = .ok (.aload_n 0, 1) ∧ decode cX12_doubt 11 = .ok (.iload_n 1, 1) ∧ True := dkl_ok (c := cX12_doubt) [(.aload_n 0, 1), (.iconst 0, 1), (.putfield 59, 3), (.aload_n 0, 1), (.iconst 0, 1), (.putfield 62, 3), (.aload_n 0, 1), (.iload_n 1, 1)] 0 (by decide +kernel)
theorem dX12_doubt_0 : decode cX12_doubt 0 = .ok (.aload_n 0, 1) := eX12_doubt_0.1
theorem dX12_doubt_1 : decode cX12_doubt 1 = .ok (.iconst 0, 1) := eX12_doubt_0.2.1
theorem dX12_doubt_2 : decode cX12_doubt 2 = .ok (.putfield 59, 3) := eX12_doubt_0.2.2.1
theorem dX12_doubt_5 : decode cX12_doubt 5 = .ok (.aload_n 0, 1) := eX12_doubt_0.2.2.2.1
theorem dX12_doubt_6 : decode cX12_doubt 6 = .ok (.iconst 0, 1) := eX12_doubt_0.2.2.2.2.1
theorem dX12_doubt_7 : decode cX12_doubt 7 = .ok (.putfield 62, 3) := eX12_doubt_0.2.2.2.2.2.1
theorem dX12_doubt_10 : decode cX12_doubt 10 = .ok (.aload_n 0, 1) := eX12_doubt_0.2.2.2.2.2.2.1
theorem dX12_doubt_11 : decode cX12_doubt 11 = .ok (.iload_n 1, 1) := eX12_doubt_0.2.2.2.2.2.2.2.1
theorem eX12_doubt_12 : decode cX12_doubt 12 = .ok (.invokevirtual 290, 3) ∧ decode cX12_doubt 15 = .ok (.ifCond .ne 9, 3) ∧ decode cX12_doubt 18 = .ok (.aload_n 0, 1) ∧ decode cX12_doubt 19 = .ok (.iconst 2, 1) ∧ decode cX12_doubt 20 = .ok (.invokevirtual 284, 3) ∧ decode cX12_doubt 23 = .ok (.ireturn, 1) ∧ decode cX12_doubt 24 = .ok (.aload_n 0, 1) ∧ decode cX12_doubt 25 = .ok (.getfield 35, 3) ∧ True := dkl_ok (c := cX12_doubt) [(.invokevirtual 290, 3), (.ifCond .ne 9, 3), (.aload_n 0, 1), (.iconst 2, 1), (.invokevirtual 284, 3), (.ireturn, 1), (.aload_n 0, 1), (.getfield 35, 3)] 12 (by decide +kernel)
theorem dX12_doubt_12 : decode cX12_doubt 12 = .ok (.invokevirtual 290, 3) := eX12_doubt_12.1
theorem dX12_doubt_15 : decode cX12_doubt 15 = .ok (.ifCond .ne 9, 3) := eX12_doubt_12.2.1
theorem dX12_doubt_18 : decode cX12_doubt 18 = .ok (.aload_n 0, 1) := eX12_doubt_12.2.2.1
theorem dX12_doubt_19 : decode cX12_doubt 19 = .ok (.iconst 2, 1) := eX12_doubt_12.2.2.2.1
theorem dX12_doubt_20 : decode cX12_doubt 20 = .ok (.invokevirtual 284, 3) := eX12_doubt_12.2.2.2.2.1
theorem dX12_doubt_23 : decode cX12_doubt 23 = .ok (.ireturn, 1) := eX12_doubt_12.2.2.2.2.2.1
theorem dX12_doubt_24 : decode cX12_doubt 24 = .ok (.aload_n 0, 1) := eX12_doubt_12.2.2.2.2.2.2.1
theorem dX12_doubt_25 : decode cX12_doubt 25 = .ok (.getfield 35, 3) := eX12_doubt_12.2.2.2.2.2.2.2.1
theorem eX12_doubt_28 : decode cX12_doubt 28 = .ok (.bipush 7, 2) ∧ decode cX12_doubt 30 = .ok (.iaload, 1) ∧ decode cX12_doubt 31 = .ok (.ifCond .ne 10, 3) ∧ decode cX12_doubt 34 = .ok (.aload_n 0, 1) ∧ decode cX12_doubt 35 = .ok (.bipush 8, 2) ∧ decode cX12_doubt 37 = .ok (.invokevirtual 284, 3) ∧ decode cX12_doubt 40 = .ok (.ireturn, 1) ∧ decode cX12_doubt 41 = .ok (.aload_n 0, 1) ∧ True := dkl_ok (c := cX12_doubt) [(.bipush 7, 2), (.iaload, 1), (.ifCond .ne 10, 3), (.aload_n 0, 1), (.bipush 8, 2), (.invokevirtual 284, 3), (.ireturn, 1), (.aload_n 0, 1)] 28 (by decide +kernel)
theorem dX12_doubt_28 : decode cX12_doubt 28 = .ok (.bipush 7, 2) := eX12_doubt_28.1
theorem dX12_doubt_30 : decode cX12_doubt 30 = .ok (.iaload, 1) := eX12_doubt_28.2.1
theorem dX12_doubt_31 : decode cX12_doubt 31 = .ok (.ifCond .ne 10, 3) := eX12_doubt_28.2.2.1
theorem dX12_doubt_34 : decode cX12_doubt 34 = .ok (.aload_n 0, 1) := eX12_doubt_28.2.2.2.1
theorem dX12_doubt_35 : decode cX12_doubt 35 = .ok (.bipush 8, 2) := eX12_doubt_28.2.2.2.2.1
theorem dX12_doubt_37 : decode cX12_doubt 37 = .ok (.invokevirtual 284, 3) := eX12_doubt_28.2.2.2.2.2.1
theorem dX12_doubt_40 : decode cX12_doubt 40 = .ok (.ireturn, 1) := eX12_doubt_28.2.2.2.2.2.2.1
theorem dX12_doubt_41 : decode cX12_doubt 41 = .ok (.aload_n 0, 1) := eX12_doubt_28.2.2.2.2.2.2.2.1
theorem eX12_doubt_42 : decode cX12_doubt 42 = .ok (.getfield 35, 3) ∧ decode cX12_doubt 45 = .ok (.bipush 6, 2) ∧ decode cX12_doubt 47 = .ok (.iaload, 1) ∧ decode cX12_doubt 48 = .ok (.iload_n 1, 1) ∧ decode cX12_doubt 49 = .ok (.if_icmp .ne 11, 3) ∧ decode cX12_doubt 52 = .ok (.aload_n 0, 1) ∧ decode cX12_doubt 53 = .ok (.iconst 5, 1) ∧ decode cX12_doubt 54 = .ok (.invokevirtual 284, 3) ∧ True := dkl_ok (c := cX12_doubt) [(.getfield 35, 3), (.bipush 6, 2), (.iaload, 1), (.iload_n 1, 1), (.if_icmp .ne 11, 3), (.aload_n 0, 1), (.iconst 5, 1), (.invokevirtual 284, 3)] 42 (by decide +kernel)
theorem dX12_doubt_42 : decode cX12_doubt 42 = .ok (.getfield 35, 3) := eX12_doubt_42.1
theorem dX12_doubt_45 : decode cX12_doubt 45 = .ok (.bipush 6, 2) := eX12_doubt_42.2.1
theorem dX12_doubt_47 : decode cX12_doubt 47 = .ok (.iaload, 1) := eX12_doubt_42.2.2.1
theorem dX12_doubt_48 : decode cX12_doubt 48 = .ok (.iload_n 1, 1) := eX12_doubt_42.2.2.2.1
theorem dX12_doubt_49 : decode cX12_doubt 49 = .ok (.if_icmp .ne 11, 3) := eX12_doubt_42.2.2.2.2.1
theorem dX12_doubt_52 : decode cX12_doubt 52 = .ok (.aload_n 0, 1) := eX12_doubt_42.2.2.2.2.2.1
theorem dX12_doubt_53 : decode cX12_doubt 53 = .ok (.iconst 5, 1) := eX12_doubt_42.2.2.2.2.2.2.1
theorem dX12_doubt_54 : decode cX12_doubt 54 = .ok (.invokevirtual 284, 3) := eX12_doubt_42.2.2.2.2.2.2.2.1
theorem eX12_doubt_57 : decode cX12_doubt 57 = .ok (.goto 8, 3) ∧ decode cX12_doubt 60 = .ok (.aload_n 0, 1) ∧ decode cX12_doubt 61 = .ok (.iload_n 1, 1) ∧ decode cX12_doubt 62 = .ok (.invokevirtual 328, 3) ∧ decode cX12_doubt 65 = .ok (.ireturn, 1) ∧ True := dkl_ok (c := cX12_doubt) [(.goto 8, 3), (.aload_n 0, 1), (.iload_n 1, 1), (.invokevirtual 328, 3), (.ireturn, 1)] 57 (by decide +kernel)
theorem dX12_doubt_57 : decode cX12_doubt 57 = .ok (.goto 8, 3) := eX12_doubt_57.1
theorem dX12_doubt_60 : decode cX12_doubt 60 = .ok (.aload_n 0, 1) := eX12_doubt_57.2.1
theorem dX12_doubt_61 : decode cX12_doubt 61 = .ok (.iload_n 1, 1) := eX12_doubt_57.2.2.1
theorem dX12_doubt_62 : decode cX12_doubt 62 = .ok (.invokevirtual 328, 3) := eX12_doubt_57.2.2.2.1
theorem dX12_doubt_65 : decode cX12_doubt 65 = .ok (.ireturn, 1) := eX12_doubt_57.2.2.2.2.1
theorem eX12_bend_0 : decode cX12_bend 0 = .ok (.aload_n 0, 1) ∧ decode cX12_bend 1 = .ok (.iconst 0, 1) ∧ decode cX12_bend 2 = .ok (.putfield 59, 3) ∧ decode cX12_bend 5 = .ok (.aload_n 0, 1) ∧ decode cX12_bend 6 = .ok (.iconst 0, 1) ∧ decode cX12_bend 7 = .ok (.putfield 62, 3) ∧ decode cX12_bend 10 = .ok (.aload_n 0, 1) ∧ decode cX12_bend 11 = .ok (.iload_n 1, 1) ∧ True := dkl_ok (c := cX12_bend) [(.aload_n 0, 1), (.iconst 0, 1), (.putfield 59, 3), (.aload_n 0, 1), (.iconst 0, 1), (.putfield 62, 3), (.aload_n 0, 1), (.iload_n 1, 1)] 0 (by decide +kernel)
theorem dX12_bend_0 : decode cX12_bend 0 = .ok (.aload_n 0, 1) := eX12_bend_0.1
theorem dX12_bend_1 : decode cX12_bend 1 = .ok (.iconst 0, 1) := eX12_bend_0.2.1
theorem dX12_bend_2 : decode cX12_bend 2 = .ok (.putfield 59, 3) := eX12_bend_0.2.2.1
theorem dX12_bend_5 : decode cX12_bend 5 = .ok (.aload_n 0, 1) := eX12_bend_0.2.2.2.1
theorem dX12_bend_6 : decode cX12_bend 6 = .ok (.iconst 0, 1) := eX12_bend_0.2.2.2.2.1
theorem dX12_bend_7 : decode cX12_bend 7 = .ok (.putfield 62, 3) := eX12_bend_0.2.2.2.2.2.1
theorem dX12_bend_10 : decode cX12_bend 10 = .ok (.aload_n 0, 1) := eX12_bend_0.2.2.2.2.2.2.1
theorem dX12_bend_11 : decode cX12_bend 11 = .ok (.iload_n 1, 1) := eX12_bend_0.2.2.2.2.2.2.2.1
theorem eX12_bend_12 : decode cX12_bend 12 = .ok (.invokevirtual 290, 3) ∧ decode cX12_bend 15 = .ok (.ifCond .ne 9, 3) ∧ decode cX12_bend 18 = .ok (.aload_n 0, 1) ∧ decode cX12_bend 19 = .ok (.iconst 2, 1) ∧ decode cX12_bend 20 = .ok (.invokevirtual 74, 3) ∧ decode cX12_bend 23 = .ok (.ireturn, 1) ∧ decode cX12_bend 24 = .ok (.iload_n 2, 1) ∧ decode cX12_bend 25 = .ok (.i2l, 1) ∧ True := dkl_ok (c := cX12_bend) [(.invokevirtual 290, 3), (.ifCond .ne 9, 3), (.aload_n 0, 1), (.iconst 2, 1), (.invokevirtual 74, 3), (.ireturn, 1), (.iload_n 2, 1), (.i2l, 1)] 12 (by decide +kernel)
theorem dX12_bend_12 : decode cX12_bend 12 = .ok (.invokevirtual 290, 3) := eX12_bend_12.1
theorem dX12_bend_15 : decode cX12_bend 15 = .ok (.ifCond .ne 9, 3) := eX12_bend_12.2.1
theorem dX12_bend_18 : decode cX12_bend 18 = .ok (.aload_n 0, 1) := eX12_bend_12.2.2.1
theorem dX12_bend_19 : decode cX12_bend 19 = .ok (.iconst 2, 1) := eX12_bend_12.2.2.2.1
theorem dX12_bend_20 : decode cX12_bend 20 = .ok (.invokevirtual 74, 3) := eX12_bend_12.2.2.2.2.1
theorem dX12_bend_23 : decode cX12_bend 23 = .ok (.ireturn, 1) := eX12_bend_12.2.2.2.2.2.1
theorem dX12_bend_24 : decode cX12_bend 24 = .ok (.iload_n 2, 1) := eX12_bend_12.2.2.2.2.2.2.1
theorem dX12_bend_25 : decode cX12_bend 25 = .ok (.i2l, 1) := eX12_bend_12.2.2.2.2.2.2.2.1
theorem eX12_bend_26 : decode cX12_bend 26 = .ok (.lconst 0, 1) ∧ decode cX12_bend 27 = .ok (.ldc2_w 331, 3) ∧ decode cX12_bend 30 = .ok (.invokestatic 94, 3) ∧ decode cX12_bend 33 = .ok (.ifCond .eq 15, 3) ∧ decode cX12_bend 36 = .ok (.iload_n 3, 1) ∧ decode cX12_bend 37 = .ok (.i2l, 1) ∧ decode cX12_bend 38 = .ok (.lconst 0, 1) ∧ decode cX12_bend 39 = .ok (.ldc2_w 331, 3) ∧ True := dkl_ok (c := cX12_bend) [(.lconst 0, 1), (.ldc2_w 331, 3), (.invokestatic 94, 3), (.ifCond .eq 15, 3), (.iload_n 3, 1), (.i2l, 1), (.lconst 0, 1), (.ldc2_w 331, 3)] 26 (by decide +kernel)
theorem dX12_bend_26 : decode cX12_bend 26 = .ok (.lconst 0, 1) := eX12_bend_26.1
theorem dX12_bend_27 : decode cX12_bend 27 = .ok (.ldc2_w 331, 3) := eX12_bend_26.2.1
theorem dX12_bend_30 : decode cX12_bend 30 = .ok (.invokestatic 94, 3) := eX12_bend_26.2.2.1
theorem dX12_bend_33 : decode cX12_bend 33 = .ok (.ifCond .eq 15, 3) := eX12_bend_26.2.2.2.1
theorem dX12_bend_36 : decode cX12_bend 36 = .ok (.iload_n 3, 1) := eX12_bend_26.2.2.2.2.1
theorem dX12_bend_37 : decode cX12_bend 37 = .ok (.i2l, 1) := eX12_bend_26.2.2.2.2.2.1
theorem dX12_bend_38 : decode cX12_bend 38 = .ok (.lconst 0, 1) := eX12_bend_26.2.2.2.2.2.2.1
theorem dX12_bend_39 : decode cX12_bend 39 = .ok (.ldc2_w 331, 3) := eX12_bend_26.2.2.2.2.2.2.2.1
theorem eX12_bend_42 : decode cX12_bend 42 = .ok (.invokestatic 94, 3) ∧ decode cX12_bend 45 = .ok (.ifCond .ne 9, 3) ∧ decode cX12_bend 48 = .ok (.aload_n 0, 1) ∧ decode cX12_bend 49 = .ok (.iconst 5, 1) ∧ decode cX12_bend 50 = .ok (.invokevirtual 74, 3) ∧ decode cX12_bend 53 = .ok (.ireturn, 1) ∧ decode cX12_bend 54 = .ok (.aload_n 0, 1) ∧ decode cX12_bend 55 = .ok (.getfield 35, 3) ∧ True := dkl_ok (c := cX12_bend) [(.invokestatic 94, 3), (.ifCond .ne 9, 3), (.aload_n 0, 1), (.iconst 5, 1), (.invokevirtual 74, 3), (.ireturn, 1), (.aload_n 0, 1), (.getfield 35, 3)] 42 (by decide +kernel)
theorem dX12_bend_42 : decode cX12_bend 42 = .ok (.invokestatic 94, 3) := eX12_bend_42.1
theorem dX12_bend_45 : decode cX12_bend 45 = .ok (.ifCond .ne 9, 3) := eX12_bend_42.2.1
theorem dX12_bend_48 : decode cX12_bend 48 = .ok (.aload_n 0, 1) := eX12_bend_42.2.2.1
theorem dX12_bend_49 : decode cX12_bend 49 = .ok (.iconst 5, 1) := eX12_bend_42.2.2.2.1
theorem dX12_bend_50 : decode cX12_bend 50 = .ok (.invokevirtual 74, 3) := eX12_bend_42.2.2.2.2.1
theorem dX12_bend_53 : decode cX12_bend 53 = .ok (.ireturn, 1) := eX12_bend_42.2.2.2.2.2.1
theorem dX12_bend_54 : decode cX12_bend 54 = .ok (.aload_n 0, 1) := eX12_bend_42.2.2.2.2.2.2.1
theorem dX12_bend_55 : decode cX12_bend 55 = .ok (.getfield 35, 3) := eX12_bend_42.2.2.2.2.2.2.2.1
theorem eX12_bend_58 : decode cX12_bend 58 = .ok (.bipush 10, 2) ∧ decode cX12_bend 60 = .ok (.iload_n 1, 1) ∧ decode cX12_bend 61 = .ok (.iadd, 1) ∧ decode cX12_bend 62 = .ok (.iload_n 2, 1) ∧ decode cX12_bend 63 = .ok (.iastore, 1) ∧ decode cX12_bend 64 = .ok (.aload_n 0, 1) ∧ decode cX12_bend 65 = .ok (.getfield 35, 3) ∧ decode cX12_bend 68 = .ok (.bipush 16, 2) ∧ True := dkl_ok (c := cX12_bend) [(.bipush 10, 2), (.iload_n 1, 1), (.iadd, 1), (.iload_n 2, 1), (.iastore, 1), (.aload_n 0, 1), (.getfield 35, 3), (.bipush 16, 2)] 58 (by decide +kernel)
theorem dX12_bend_58 : decode cX12_bend 58 = .ok (.bipush 10, 2) := eX12_bend_58.1
theorem dX12_bend_60 : decode cX12_bend 60 = .ok (.iload_n 1, 1) := eX12_bend_58.2.1
theorem dX12_bend_61 : decode cX12_bend 61 = .ok (.iadd, 1) := eX12_bend_58.2.2.1
theorem dX12_bend_62 : decode cX12_bend 62 = .ok (.iload_n 2, 1) := eX12_bend_58.2.2.2.1
theorem dX12_bend_63 : decode cX12_bend 63 = .ok (.iastore, 1) := eX12_bend_58.2.2.2.2.1
theorem dX12_bend_64 : decode cX12_bend 64 = .ok (.aload_n 0, 1) := eX12_bend_58.2.2.2.2.2.1
theorem dX12_bend_65 : decode cX12_bend 65 = .ok (.getfield 35, 3) := eX12_bend_58.2.2.2.2.2.2.1
theorem dX12_bend_68 : decode cX12_bend 68 = .ok (.bipush 16, 2) := eX12_bend_58.2.2.2.2.2.2.2.1
theorem eX12_bend_70 : decode cX12_bend 70 = .ok (.iload_n 1, 1) ∧ decode cX12_bend 71 = .ok (.iadd, 1) ∧ decode cX12_bend 72 = .ok (.iload_n 3, 1) ∧ decode cX12_bend 73 = .ok (.iastore, 1) ∧ decode cX12_bend 74 = .ok (.iconst 1, 1) ∧ decode cX12_bend 75 = .ok (.ireturn, 1) ∧ True := dkl_ok (c := cX12_bend) [(.iload_n 1, 1), (.iadd, 1), (.iload_n 3, 1), (.iastore, 1), (.iconst 1, 1), (.ireturn, 1)] 70 (by decide +kernel)
theorem dX12_bend_70 : decode cX12_bend 70 = .ok (.iload_n 1, 1) := eX12_bend_70.1
theorem dX12_bend_71 : decode cX12_bend 71 = .ok (.iadd, 1) := eX12_bend_70.2.1
theorem dX12_bend_72 : decode cX12_bend 72 = .ok (.iload_n 3, 1) := eX12_bend_70.2.2.1
theorem dX12_bend_73 : decode cX12_bend 73 = .ok (.iastore, 1) := eX12_bend_70.2.2.2.1
theorem dX12_bend_74 : decode cX12_bend 74 = .ok (.iconst 1, 1) := eX12_bend_70.2.2.2.2.1
theorem dX12_bend_75 : decode cX12_bend 75 = .ok (.ireturn, 1) := eX12_bend_70.2.2.2.2.2.1
theorem eX12_knownOf_0 : decode cX12_knownOf 0 = .ok (.aload_n 0, 1) ∧ decode cX12_knownOf 1 = .ok (.iload_n 1, 1) ∧ decode cX12_knownOf 2 = .ok (.iload_n 2, 1) ∧ decode cX12_knownOf 3 = .ok (.invokevirtual 276, 3) ∧ decode cX12_knownOf 6 = .ok (.aload_n 0, 1) ∧ decode cX12_knownOf 7 = .ok (.iload_n 1, 1) ∧ decode cX12_knownOf 8 = .ok (.iload_n 2, 1) ∧ decode cX12_knownOf 9 = .ok (.invokevirtual 296, 3) ∧ True := dkl_ok (c := cX12_knownOf) [(.aload_n 0, 1), (.iload_n 1, 1), (.iload_n 2, 1), (.invokevirtual 276, 3), (.aload_n 0, 1), (.iload_n 1, 1), (.iload_n 2, 1), (.invokevirtual 296, 3)] 0 (by decide +kernel)
theorem dX12_knownOf_0 : decode cX12_knownOf 0 = .ok (.aload_n 0, 1) := eX12_knownOf_0.1
theorem dX12_knownOf_1 : decode cX12_knownOf 1 = .ok (.iload_n 1, 1) := eX12_knownOf_0.2.1
theorem dX12_knownOf_2 : decode cX12_knownOf 2 = .ok (.iload_n 2, 1) := eX12_knownOf_0.2.2.1
theorem dX12_knownOf_3 : decode cX12_knownOf 3 = .ok (.invokevirtual 276, 3) := eX12_knownOf_0.2.2.2.1
theorem dX12_knownOf_6 : decode cX12_knownOf 6 = .ok (.aload_n 0, 1) := eX12_knownOf_0.2.2.2.2.1
theorem dX12_knownOf_7 : decode cX12_knownOf 7 = .ok (.iload_n 1, 1) := eX12_knownOf_0.2.2.2.2.2.1
theorem dX12_knownOf_8 : decode cX12_knownOf 8 = .ok (.iload_n 2, 1) := eX12_knownOf_0.2.2.2.2.2.2.1
theorem dX12_knownOf_9 : decode cX12_knownOf 9 = .ok (.invokevirtual 296, 3) := eX12_knownOf_0.2.2.2.2.2.2.2.1
theorem eX12_knownOf_12 : decode cX12_knownOf 12 = .ok (.iadd, 1) ∧ decode cX12_knownOf 13 = .ok (.ireturn, 1) ∧ True := dkl_ok (c := cX12_knownOf) [(.iadd, 1), (.ireturn, 1)] 12 (by decide +kernel)
theorem dX12_knownOf_12 : decode cX12_knownOf 12 = .ok (.iadd, 1) := eX12_knownOf_12.1
theorem dX12_knownOf_13 : decode cX12_knownOf 13 = .ok (.ireturn, 1) := eX12_knownOf_12.2.1
theorem eX12_unknownOf_0 : decode cX12_unknownOf 0 = .ok (.aload_n 0, 1) ∧ decode cX12_unknownOf 1 = .ok (.iload_n 2, 1) ∧ decode cX12_unknownOf 2 = .ok (.invokevirtual 302, 3) ∧ decode cX12_unknownOf 5 = .ok (.aload_n 0, 1) ∧ decode cX12_unknownOf 6 = .ok (.iload_n 1, 1) ∧ decode cX12_unknownOf 7 = .ok (.iload_n 2, 1) ∧ decode cX12_unknownOf 8 = .ok (.invokevirtual 333, 3) ∧ decode cX12_unknownOf 11 = .ok (.isub, 1) ∧ True := dkl_ok (c := cX12_unknownOf) [(.aload_n 0, 1), (.iload_n 2, 1), (.invokevirtual 302, 3), (.aload_n 0, 1), (.iload_n 1, 1), (.iload_n 2, 1), (.invokevirtual 333, 3), (.isub, 1)] 0 (by decide +kernel)
theorem dX12_unknownOf_0 : decode cX12_unknownOf 0 = .ok (.aload_n 0, 1) := eX12_unknownOf_0.1
theorem dX12_unknownOf_1 : decode cX12_unknownOf 1 = .ok (.iload_n 2, 1) := eX12_unknownOf_0.2.1
theorem dX12_unknownOf_2 : decode cX12_unknownOf 2 = .ok (.invokevirtual 302, 3) := eX12_unknownOf_0.2.2.1
theorem dX12_unknownOf_5 : decode cX12_unknownOf 5 = .ok (.aload_n 0, 1) := eX12_unknownOf_0.2.2.2.1
theorem dX12_unknownOf_6 : decode cX12_unknownOf 6 = .ok (.iload_n 1, 1) := eX12_unknownOf_0.2.2.2.2.1
theorem dX12_unknownOf_7 : decode cX12_unknownOf 7 = .ok (.iload_n 2, 1) := eX12_unknownOf_0.2.2.2.2.2.1
theorem dX12_unknownOf_8 : decode cX12_unknownOf 8 = .ok (.invokevirtual 333, 3) := eX12_unknownOf_0.2.2.2.2.2.2.1
theorem dX12_unknownOf_11 : decode cX12_unknownOf 11 = .ok (.isub, 1) := eX12_unknownOf_0.2.2.2.2.2.2.2.1
theorem eX12_unknownOf_12 : decode cX12_unknownOf 12 = .ok (.ireturn, 1) ∧ True := dkl_ok (c := cX12_unknownOf) [(.ireturn, 1)] 12 (by decide +kernel)
theorem dX12_unknownOf_12 : decode cX12_unknownOf 12 = .ok (.ireturn, 1) := eX12_unknownOf_12.1
theorem eX12_unknownAll_0 : decode cX12_unknownAll 0 = .ok (.iconst 0, 1) ∧ decode cX12_unknownAll 1 = .ok (.istore_n 2, 1) ∧ decode cX12_unknownAll 2 = .ok (.iconst 0, 1) ∧ decode cX12_unknownAll 3 = .ok (.istore_n 3, 1) ∧ decode cX12_unknownAll 4 = .ok (.iload_n 3, 1) ∧ decode cX12_unknownAll 5 = .ok (.aload_n 0, 1) ∧ decode cX12_unknownAll 6 = .ok (.getfield 35, 3) ∧ decode cX12_unknownAll 9 = .ok (.iconst 0, 1) ∧ True := dkl_ok (c := cX12_unknownAll) [(.iconst 0, 1), (.istore_n 2, 1), (.iconst 0, 1), (.istore_n 3, 1), (.iload_n 3, 1), (.aload_n 0, 1), (.getfield 35, 3), (.iconst 0, 1)] 0 (by decide +kernel)
theorem dX12_unknownAll_0 : decode cX12_unknownAll 0 = .ok (.iconst 0, 1) := eX12_unknownAll_0.1
theorem dX12_unknownAll_1 : decode cX12_unknownAll 1 = .ok (.istore_n 2, 1) := eX12_unknownAll_0.2.1
theorem dX12_unknownAll_2 : decode cX12_unknownAll 2 = .ok (.iconst 0, 1) := eX12_unknownAll_0.2.2.1
theorem dX12_unknownAll_3 : decode cX12_unknownAll 3 = .ok (.istore_n 3, 1) := eX12_unknownAll_0.2.2.2.1
theorem dX12_unknownAll_4 : decode cX12_unknownAll 4 = .ok (.iload_n 3, 1) := eX12_unknownAll_0.2.2.2.2.1
theorem dX12_unknownAll_5 : decode cX12_unknownAll 5 = .ok (.aload_n 0, 1) := eX12_unknownAll_0.2.2.2.2.2.1
theorem dX12_unknownAll_6 : decode cX12_unknownAll 6 = .ok (.getfield 35, 3) := eX12_unknownAll_0.2.2.2.2.2.2.1
theorem dX12_unknownAll_9 : decode cX12_unknownAll 9 = .ok (.iconst 0, 1) := eX12_unknownAll_0.2.2.2.2.2.2.2.1
theorem eX12_unknownAll_10 : decode cX12_unknownAll 10 = .ok (.iaload, 1) ∧ decode cX12_unknownAll 11 = .ok (.if_icmp .ge 18, 3) ∧ decode cX12_unknownAll 14 = .ok (.iload_n 2, 1) ∧ decode cX12_unknownAll 15 = .ok (.aload_n 0, 1) ∧ decode cX12_unknownAll 16 = .ok (.iload_n 1, 1) ∧ decode cX12_unknownAll 17 = .ok (.iload_n 3, 1) ∧ decode cX12_unknownAll 18 = .ok (.invokevirtual 336, 3) ∧ decode cX12_unknownAll 21 = .ok (.iadd, 1) ∧ True := dkl_ok (c := cX12_unknownAll) [(.iaload, 1), (.if_icmp .ge 18, 3), (.iload_n 2, 1), (.aload_n 0, 1), (.iload_n 1, 1), (.iload_n 3, 1), (.invokevirtual 336, 3), (.iadd, 1)] 10 (by decide +kernel)
theorem dX12_unknownAll_10 : decode cX12_unknownAll 10 = .ok (.iaload, 1) := eX12_unknownAll_10.1
theorem dX12_unknownAll_11 : decode cX12_unknownAll 11 = .ok (.if_icmp .ge 18, 3) := eX12_unknownAll_10.2.1
theorem dX12_unknownAll_14 : decode cX12_unknownAll 14 = .ok (.iload_n 2, 1) := eX12_unknownAll_10.2.2.1
theorem dX12_unknownAll_15 : decode cX12_unknownAll 15 = .ok (.aload_n 0, 1) := eX12_unknownAll_10.2.2.2.1
theorem dX12_unknownAll_16 : decode cX12_unknownAll 16 = .ok (.iload_n 1, 1) := eX12_unknownAll_10.2.2.2.2.1
theorem dX12_unknownAll_17 : decode cX12_unknownAll 17 = .ok (.iload_n 3, 1) := eX12_unknownAll_10.2.2.2.2.2.1
theorem dX12_unknownAll_18 : decode cX12_unknownAll 18 = .ok (.invokevirtual 336, 3) := eX12_unknownAll_10.2.2.2.2.2.2.1
theorem dX12_unknownAll_21 : decode cX12_unknownAll 21 = .ok (.iadd, 1) := eX12_unknownAll_10.2.2.2.2.2.2.2.1
theorem eX12_unknownAll_22 : decode cX12_unknownAll 22 = .ok (.istore_n 2, 1) ∧ decode cX12_unknownAll 23 = .ok (.iinc 3 1, 3) ∧ decode cX12_unknownAll 26 = .ok (.goto (-22), 3) ∧ decode cX12_unknownAll 29 = .ok (.iload_n 2, 1) ∧ decode cX12_unknownAll 30 = .ok (.ireturn, 1) ∧ True := dkl_ok (c := cX12_unknownAll) [(.istore_n 2, 1), (.iinc 3 1, 3), (.goto (-22), 3), (.iload_n 2, 1), (.ireturn, 1)] 22 (by decide +kernel)
theorem dX12_unknownAll_22 : decode cX12_unknownAll 22 = .ok (.istore_n 2, 1) := eX12_unknownAll_22.1
theorem dX12_unknownAll_23 : decode cX12_unknownAll 23 = .ok (.iinc 3 1, 3) := eX12_unknownAll_22.2.1
theorem dX12_unknownAll_26 : decode cX12_unknownAll 26 = .ok (.goto (-22), 3) := eX12_unknownAll_22.2.2.1
theorem dX12_unknownAll_29 : decode cX12_unknownAll 29 = .ok (.iload_n 2, 1) := eX12_unknownAll_22.2.2.2.1
theorem dX12_unknownAll_30 : decode cX12_unknownAll 30 = .ok (.ireturn, 1) := eX12_unknownAll_22.2.2.2.2.1
theorem eX12_known_0 : decode cX12_known 0 = .ok (.aload_n 0, 1) ∧ decode cX12_known 1 = .ok (.iconst 0, 1) ∧ decode cX12_known 2 = .ok (.putfield 59, 3) ∧ decode cX12_known 5 = .ok (.aload_n 0, 1) ∧ decode cX12_known 6 = .ok (.iconst 0, 1) ∧ decode cX12_known 7 = .ok (.putfield 62, 3) ∧ decode cX12_known 10 = .ok (.aload_n 0, 1) ∧ decode cX12_known 11 = .ok (.iload_n 1, 1) ∧ True := dkl_ok (c := cX12_known) [(.aload_n 0, 1), (.iconst 0, 1), (.putfield 59, 3), (.aload_n 0, 1), (.iconst 0, 1), (.putfield 62, 3), (.aload_n 0, 1), (.iload_n 1, 1)] 0 (by decide +kernel)
theorem dX12_known_0 : decode cX12_known 0 = .ok (.aload_n 0, 1) := eX12_known_0.1
theorem dX12_known_1 : decode cX12_known 1 = .ok (.iconst 0, 1) := eX12_known_0.2.1
theorem dX12_known_2 : decode cX12_known 2 = .ok (.putfield 59, 3) := eX12_known_0.2.2.1
theorem dX12_known_5 : decode cX12_known 5 = .ok (.aload_n 0, 1) := eX12_known_0.2.2.2.1
theorem dX12_known_6 : decode cX12_known 6 = .ok (.iconst 0, 1) := eX12_known_0.2.2.2.2.1
theorem dX12_known_7 : decode cX12_known 7 = .ok (.putfield 62, 3) := eX12_known_0.2.2.2.2.2.1
theorem dX12_known_10 : decode cX12_known 10 = .ok (.aload_n 0, 1) := eX12_known_0.2.2.2.2.2.2.1
theorem dX12_known_11 : decode cX12_known 11 = .ok (.iload_n 1, 1) := eX12_known_0.2.2.2.2.2.2.2.1
theorem eX12_known_12 : decode cX12_known 12 = .ok (.invokevirtual 290, 3) ∧ decode cX12_known 15 = .ok (.ifCond .eq 20, 3) ∧ decode cX12_known 18 = .ok (.aload_n 0, 1) ∧ decode cX12_known 19 = .ok (.iload_n 2, 1) ∧ decode cX12_known 20 = .ok (.invokevirtual 299, 3) ∧ decode cX12_known 23 = .ok (.ifCond .eq 12, 3) ∧ decode cX12_known 26 = .ok (.aload_n 0, 1) ∧ decode cX12_known 27 = .ok (.iload_n 1, 1) ∧ True := dkl_ok (c := cX12_known) [(.invokevirtual 290, 3), (.ifCond .eq 20, 3), (.aload_n 0, 1), (.iload_n 2, 1), (.invokevirtual 299, 3), (.ifCond .eq 12, 3), (.aload_n 0, 1), (.iload_n 1, 1)] 12 (by decide +kernel)
theorem dX12_known_12 : decode cX12_known 12 = .ok (.invokevirtual 290, 3) := eX12_known_12.1
theorem dX12_known_15 : decode cX12_known 15 = .ok (.ifCond .eq 20, 3) := eX12_known_12.2.1
theorem dX12_known_18 : decode cX12_known 18 = .ok (.aload_n 0, 1) := eX12_known_12.2.2.1
theorem dX12_known_19 : decode cX12_known 19 = .ok (.iload_n 2, 1) := eX12_known_12.2.2.2.1
theorem dX12_known_20 : decode cX12_known 20 = .ok (.invokevirtual 299, 3) := eX12_known_12.2.2.2.2.1
theorem dX12_known_23 : decode cX12_known 23 = .ok (.ifCond .eq 12, 3) := eX12_known_12.2.2.2.2.2.1
theorem dX12_known_26 : decode cX12_known 26 = .ok (.aload_n 0, 1) := eX12_known_12.2.2.2.2.2.2.1
theorem dX12_known_27 : decode cX12_known 27 = .ok (.iload_n 1, 1) := eX12_known_12.2.2.2.2.2.2.2.1
theorem eX12_known_28 : decode cX12_known 28 = .ok (.iload_n 2, 1) ∧ decode cX12_known 29 = .ok (.invokevirtual 333, 3) ∧ decode cX12_known 32 = .ok (.goto 8, 3) ∧ decode cX12_known 35 = .ok (.aload_n 0, 1) ∧ decode cX12_known 36 = .ok (.iconst 2, 1) ∧ decode cX12_known 37 = .ok (.invokevirtual 284, 3) ∧ decode cX12_known 40 = .ok (.ireturn, 1) ∧ True := dkl_ok (c := cX12_known) [(.iload_n 2, 1), (.invokevirtual 333, 3), (.goto 8, 3), (.aload_n 0, 1), (.iconst 2, 1), (.invokevirtual 284, 3), (.ireturn, 1)] 28 (by decide +kernel)
theorem dX12_known_28 : decode cX12_known 28 = .ok (.iload_n 2, 1) := eX12_known_28.1
theorem dX12_known_29 : decode cX12_known 29 = .ok (.invokevirtual 333, 3) := eX12_known_28.2.1
theorem dX12_known_32 : decode cX12_known 32 = .ok (.goto 8, 3) := eX12_known_28.2.2.1
theorem dX12_known_35 : decode cX12_known 35 = .ok (.aload_n 0, 1) := eX12_known_28.2.2.2.1
theorem dX12_known_36 : decode cX12_known 36 = .ok (.iconst 2, 1) := eX12_known_28.2.2.2.2.1
theorem dX12_known_37 : decode cX12_known 37 = .ok (.invokevirtual 284, 3) := eX12_known_28.2.2.2.2.2.1
theorem dX12_known_40 : decode cX12_known 40 = .ok (.ireturn, 1) := eX12_known_28.2.2.2.2.2.2.1
theorem eX12_unknown_0 : decode cX12_unknown 0 = .ok (.aload_n 0, 1) ∧ decode cX12_unknown 1 = .ok (.iconst 0, 1) ∧ decode cX12_unknown 2 = .ok (.putfield 59, 3) ∧ decode cX12_unknown 5 = .ok (.aload_n 0, 1) ∧ decode cX12_unknown 6 = .ok (.iconst 0, 1) ∧ decode cX12_unknown 7 = .ok (.putfield 62, 3) ∧ decode cX12_unknown 10 = .ok (.aload_n 0, 1) ∧ decode cX12_unknown 11 = .ok (.iload_n 1, 1) ∧ True := dkl_ok (c := cX12_unknown) [(.aload_n 0, 1), (.iconst 0, 1), (.putfield 59, 3), (.aload_n 0, 1), (.iconst 0, 1), (.putfield 62, 3), (.aload_n 0, 1), (.iload_n 1, 1)] 0 (by decide +kernel)
theorem dX12_unknown_0 : decode cX12_unknown 0 = .ok (.aload_n 0, 1) := eX12_unknown_0.1
theorem dX12_unknown_1 : decode cX12_unknown 1 = .ok (.iconst 0, 1) := eX12_unknown_0.2.1
theorem dX12_unknown_2 : decode cX12_unknown 2 = .ok (.putfield 59, 3) := eX12_unknown_0.2.2.1
theorem dX12_unknown_5 : decode cX12_unknown 5 = .ok (.aload_n 0, 1) := eX12_unknown_0.2.2.2.1
theorem dX12_unknown_6 : decode cX12_unknown 6 = .ok (.iconst 0, 1) := eX12_unknown_0.2.2.2.2.1
theorem dX12_unknown_7 : decode cX12_unknown 7 = .ok (.putfield 62, 3) := eX12_unknown_0.2.2.2.2.2.1
theorem dX12_unknown_10 : decode cX12_unknown 10 = .ok (.aload_n 0, 1) := eX12_unknown_0.2.2.2.2.2.2.1
theorem dX12_unknown_11 : decode cX12_unknown 11 = .ok (.iload_n 1, 1) := eX12_unknown_0.2.2.2.2.2.2.2.1
theorem eX12_unknown_12 : decode cX12_unknown 12 = .ok (.invokevirtual 290, 3) ∧ decode cX12_unknown 15 = .ok (.ifCond .eq 16, 3) ∧ decode cX12_unknown 18 = .ok (.iload_n 2, 1) ∧ decode cX12_unknown 19 = .ok (.iconst (-1), 1) ∧ decode cX12_unknown 20 = .ok (.if_icmp .eq 17, 3) ∧ decode cX12_unknown 23 = .ok (.aload_n 0, 1) ∧ decode cX12_unknown 24 = .ok (.iload_n 2, 1) ∧ decode cX12_unknown 25 = .ok (.invokevirtual 299, 3) ∧ True := dkl_ok (c := cX12_unknown) [(.invokevirtual 290, 3), (.ifCond .eq 16, 3), (.iload_n 2, 1), (.iconst (-1), 1), (.if_icmp .eq 17, 3), (.aload_n 0, 1), (.iload_n 2, 1), (.invokevirtual 299, 3)] 12 (by decide +kernel)
theorem dX12_unknown_12 : decode cX12_unknown 12 = .ok (.invokevirtual 290, 3) := eX12_unknown_12.1
theorem dX12_unknown_15 : decode cX12_unknown 15 = .ok (.ifCond .eq 16, 3) := eX12_unknown_12.2.1
theorem dX12_unknown_18 : decode cX12_unknown 18 = .ok (.iload_n 2, 1) := eX12_unknown_12.2.2.1
theorem dX12_unknown_19 : decode cX12_unknown 19 = .ok (.iconst (-1), 1) := eX12_unknown_12.2.2.2.1
theorem dX12_unknown_20 : decode cX12_unknown 20 = .ok (.if_icmp .eq 17, 3) := eX12_unknown_12.2.2.2.2.1
theorem dX12_unknown_23 : decode cX12_unknown 23 = .ok (.aload_n 0, 1) := eX12_unknown_12.2.2.2.2.2.1
theorem dX12_unknown_24 : decode cX12_unknown 24 = .ok (.iload_n 2, 1) := eX12_unknown_12.2.2.2.2.2.2.1
theorem dX12_unknown_25 : decode cX12_unknown 25 = .ok (.invokevirtual 299, 3) := eX12_unknown_12.2.2.2.2.2.2.2.1
theorem eX12_unknown_28 : decode cX12_unknown 28 = .ok (.ifCond .ne 9, 3) ∧ decode cX12_unknown 31 = .ok (.aload_n 0, 1) ∧ decode cX12_unknown 32 = .ok (.iconst 2, 1) ∧ decode cX12_unknown 33 = .ok (.invokevirtual 284, 3) ∧ decode cX12_unknown 36 = .ok (.ireturn, 1) ∧ decode cX12_unknown 37 = .ok (.iload_n 2, 1) ∧ decode cX12_unknown 38 = .ok (.iconst (-1), 1) ∧ decode cX12_unknown 39 = .ok (.if_icmp .ne 11, 3) ∧ True := dkl_ok (c := cX12_unknown) [(.ifCond .ne 9, 3), (.aload_n 0, 1), (.iconst 2, 1), (.invokevirtual 284, 3), (.ireturn, 1), (.iload_n 2, 1), (.iconst (-1), 1), (.if_icmp .ne 11, 3)] 28 (by decide +kernel)
theorem dX12_unknown_28 : decode cX12_unknown 28 = .ok (.ifCond .ne 9, 3) := eX12_unknown_28.1
theorem dX12_unknown_31 : decode cX12_unknown 31 = .ok (.aload_n 0, 1) := eX12_unknown_28.2.1
theorem dX12_unknown_32 : decode cX12_unknown 32 = .ok (.iconst 2, 1) := eX12_unknown_28.2.2.1
theorem dX12_unknown_33 : decode cX12_unknown 33 = .ok (.invokevirtual 284, 3) := eX12_unknown_28.2.2.2.1
theorem dX12_unknown_36 : decode cX12_unknown 36 = .ok (.ireturn, 1) := eX12_unknown_28.2.2.2.2.1
theorem dX12_unknown_37 : decode cX12_unknown 37 = .ok (.iload_n 2, 1) := eX12_unknown_28.2.2.2.2.2.1
theorem dX12_unknown_38 : decode cX12_unknown 38 = .ok (.iconst (-1), 1) := eX12_unknown_28.2.2.2.2.2.2.1
theorem dX12_unknown_39 : decode cX12_unknown 39 = .ok (.if_icmp .ne 11, 3) := eX12_unknown_28.2.2.2.2.2.2.2.1
theorem eX12_unknown_42 : decode cX12_unknown 42 = .ok (.aload_n 0, 1) ∧ decode cX12_unknown 43 = .ok (.iload_n 1, 1) ∧ decode cX12_unknown 44 = .ok (.invokevirtual 339, 3) ∧ decode cX12_unknown 47 = .ok (.goto 9, 3) ∧ decode cX12_unknown 50 = .ok (.aload_n 0, 1) ∧ decode cX12_unknown 51 = .ok (.iload_n 1, 1) ∧ decode cX12_unknown 52 = .ok (.iload_n 2, 1) ∧ decode cX12_unknown 53 = .ok (.invokevirtual 336, 3) ∧ True := dkl_ok (c := cX12_unknown) [(.aload_n 0, 1), (.iload_n 1, 1), (.invokevirtual 339, 3), (.goto 9, 3), (.aload_n 0, 1), (.iload_n 1, 1), (.iload_n 2, 1), (.invokevirtual 336, 3)] 42 (by decide +kernel)
theorem dX12_unknown_42 : decode cX12_unknown 42 = .ok (.aload_n 0, 1) := eX12_unknown_42.1
theorem dX12_unknown_43 : decode cX12_unknown 43 = .ok (.iload_n 1, 1) := eX12_unknown_42.2.1
theorem dX12_unknown_44 : decode cX12_unknown 44 = .ok (.invokevirtual 339, 3) := eX12_unknown_42.2.2.1
theorem dX12_unknown_47 : decode cX12_unknown 47 = .ok (.goto 9, 3) := eX12_unknown_42.2.2.2.1
theorem dX12_unknown_50 : decode cX12_unknown 50 = .ok (.aload_n 0, 1) := eX12_unknown_42.2.2.2.2.1
theorem dX12_unknown_51 : decode cX12_unknown 51 = .ok (.iload_n 1, 1) := eX12_unknown_42.2.2.2.2.2.1
theorem dX12_unknown_52 : decode cX12_unknown 52 = .ok (.iload_n 2, 1) := eX12_unknown_42.2.2.2.2.2.2.1
theorem dX12_unknown_53 : decode cX12_unknown 53 = .ok (.invokevirtual 336, 3) := eX12_unknown_42.2.2.2.2.2.2.2.1
theorem eX12_unknown_56 : decode cX12_unknown 56 = .ok (.ireturn, 1) ∧ True := dkl_ok (c := cX12_unknown) [(.ireturn, 1)] 56 (by decide +kernel)
theorem dX12_unknown_56 : decode cX12_unknown 56 = .ok (.ireturn, 1) := eX12_unknown_56.1
theorem eX12_choose_0 : decode cX12_choose 0 = .ok (.iload_n 1, 1) ∧ decode cX12_choose 1 = .ok (.iload_n 0, 1) ∧ decode cX12_choose 2 = .ok (.if_icmp .le 5, 3) ∧ decode cX12_choose 5 = .ok (.lconst 0, 1) ∧ decode cX12_choose 6 = .ok (.lreturn, 1) ∧ decode cX12_choose 7 = .ok (.lconst 1, 1) ∧ decode cX12_choose 8 = .ok (.lstore_n 2, 1) ∧ decode cX12_choose 9 = .ok (.iconst 1, 1) ∧ True := dkl_ok (c := cX12_choose) [(.iload_n 1, 1), (.iload_n 0, 1), (.if_icmp .le 5, 3), (.lconst 0, 1), (.lreturn, 1), (.lconst 1, 1), (.lstore_n 2, 1), (.iconst 1, 1)] 0 (by decide +kernel)
theorem dX12_choose_0 : decode cX12_choose 0 = .ok (.iload_n 1, 1) := eX12_choose_0.1
theorem dX12_choose_1 : decode cX12_choose 1 = .ok (.iload_n 0, 1) := eX12_choose_0.2.1
theorem dX12_choose_2 : decode cX12_choose 2 = .ok (.if_icmp .le 5, 3) := eX12_choose_0.2.2.1
theorem dX12_choose_5 : decode cX12_choose 5 = .ok (.lconst 0, 1) := eX12_choose_0.2.2.2.1
theorem dX12_choose_6 : decode cX12_choose 6 = .ok (.lreturn, 1) := eX12_choose_0.2.2.2.2.1
theorem dX12_choose_7 : decode cX12_choose 7 = .ok (.lconst 1, 1) := eX12_choose_0.2.2.2.2.2.1
theorem dX12_choose_8 : decode cX12_choose 8 = .ok (.lstore_n 2, 1) := eX12_choose_0.2.2.2.2.2.2.1
theorem dX12_choose_9 : decode cX12_choose 9 = .ok (.iconst 1, 1) := eX12_choose_0.2.2.2.2.2.2.2.1
theorem eX12_choose_10 : decode cX12_choose 10 = .ok (.istore 4, 2) ∧ decode cX12_choose 12 = .ok (.iload 4, 2) ∧ decode cX12_choose 14 = .ok (.iload_n 1, 1) ∧ decode cX12_choose 15 = .ok (.if_icmp .gt 23, 3) ∧ decode cX12_choose 18 = .ok (.lload_n 2, 1) ∧ decode cX12_choose 19 = .ok (.iload_n 0, 1) ∧ decode cX12_choose 20 = .ok (.iload_n 1, 1) ∧ decode cX12_choose 21 = .ok (.isub, 1) ∧ True := dkl_ok (c := cX12_choose) [(.istore 4, 2), (.iload 4, 2), (.iload_n 1, 1), (.if_icmp .gt 23, 3), (.lload_n 2, 1), (.iload_n 0, 1), (.iload_n 1, 1), (.isub, 1)] 10 (by decide +kernel)
theorem dX12_choose_10 : decode cX12_choose 10 = .ok (.istore 4, 2) := eX12_choose_10.1
theorem dX12_choose_12 : decode cX12_choose 12 = .ok (.iload 4, 2) := eX12_choose_10.2.1
theorem dX12_choose_14 : decode cX12_choose 14 = .ok (.iload_n 1, 1) := eX12_choose_10.2.2.1
theorem dX12_choose_15 : decode cX12_choose 15 = .ok (.if_icmp .gt 23, 3) := eX12_choose_10.2.2.2.1
theorem dX12_choose_18 : decode cX12_choose 18 = .ok (.lload_n 2, 1) := eX12_choose_10.2.2.2.2.1
theorem dX12_choose_19 : decode cX12_choose 19 = .ok (.iload_n 0, 1) := eX12_choose_10.2.2.2.2.2.1
theorem dX12_choose_20 : decode cX12_choose 20 = .ok (.iload_n 1, 1) := eX12_choose_10.2.2.2.2.2.2.1
theorem dX12_choose_21 : decode cX12_choose 21 = .ok (.isub, 1) := eX12_choose_10.2.2.2.2.2.2.2.1
theorem eX12_choose_22 : decode cX12_choose 22 = .ok (.iload 4, 2) ∧ decode cX12_choose 24 = .ok (.iadd, 1) ∧ decode cX12_choose 25 = .ok (.i2l, 1) ∧ decode cX12_choose 26 = .ok (.lmul, 1) ∧ decode cX12_choose 27 = .ok (.iload 4, 2) ∧ decode cX12_choose 29 = .ok (.i2l, 1) ∧ decode cX12_choose 30 = .ok (.ldiv, 1) ∧ decode cX12_choose 31 = .ok (.lstore_n 2, 1) ∧ True := dkl_ok (c := cX12_choose) [(.iload 4, 2), (.iadd, 1), (.i2l, 1), (.lmul, 1), (.iload 4, 2), (.i2l, 1), (.ldiv, 1), (.lstore_n 2, 1)] 22 (by decide +kernel)
theorem dX12_choose_22 : decode cX12_choose 22 = .ok (.iload 4, 2) := eX12_choose_22.1
theorem dX12_choose_24 : decode cX12_choose 24 = .ok (.iadd, 1) := eX12_choose_22.2.1
theorem dX12_choose_25 : decode cX12_choose 25 = .ok (.i2l, 1) := eX12_choose_22.2.2.1
theorem dX12_choose_26 : decode cX12_choose 26 = .ok (.lmul, 1) := eX12_choose_22.2.2.2.1
theorem dX12_choose_27 : decode cX12_choose 27 = .ok (.iload 4, 2) := eX12_choose_22.2.2.2.2.1
theorem dX12_choose_29 : decode cX12_choose 29 = .ok (.i2l, 1) := eX12_choose_22.2.2.2.2.2.1
theorem dX12_choose_30 : decode cX12_choose 30 = .ok (.ldiv, 1) := eX12_choose_22.2.2.2.2.2.2.1
theorem dX12_choose_31 : decode cX12_choose 31 = .ok (.lstore_n 2, 1) := eX12_choose_22.2.2.2.2.2.2.2.1
theorem eX12_choose_32 : decode cX12_choose 32 = .ok (.iinc 4 1, 3) ∧ decode cX12_choose 35 = .ok (.goto (-23), 3) ∧ decode cX12_choose 38 = .ok (.lload_n 2, 1) ∧ decode cX12_choose 39 = .ok (.lreturn, 1) ∧ True := dkl_ok (c := cX12_choose) [(.iinc 4 1, 3), (.goto (-23), 3), (.lload_n 2, 1), (.lreturn, 1)] 32 (by decide +kernel)
theorem dX12_choose_32 : decode cX12_choose 32 = .ok (.iinc 4 1, 3) := eX12_choose_32.1
theorem dX12_choose_35 : decode cX12_choose 35 = .ok (.goto (-23), 3) := eX12_choose_32.2.1
theorem dX12_choose_38 : decode cX12_choose 38 = .ok (.lload_n 2, 1) := eX12_choose_32.2.2.1
theorem dX12_choose_39 : decode cX12_choose 39 = .ok (.lreturn, 1) := eX12_choose_32.2.2.2.1
theorem eX12_blinds_0 : decode cX12_blinds 0 = .ok (.aload_n 0, 1) ∧ decode cX12_blinds 1 = .ok (.getfield 35, 3) ∧ decode cX12_blinds 4 = .ok (.aload_n 0, 1) ∧ decode cX12_blinds 5 = .ok (.getfield 35, 3) ∧ decode cX12_blinds 8 = .ok (.bipush 9, 2) ∧ decode cX12_blinds 10 = .ok (.iaload, 1) ∧ decode cX12_blinds 11 = .ok (.iconst 1, 1) ∧ decode cX12_blinds 12 = .ok (.isub, 1) ∧ True := dkl_ok (c := cX12_blinds) [(.aload_n 0, 1), (.getfield 35, 3), (.aload_n 0, 1), (.getfield 35, 3), (.bipush 9, 2), (.iaload, 1), (.iconst 1, 1), (.isub, 1)] 0 (by decide +kernel)
theorem dX12_blinds_0 : decode cX12_blinds 0 = .ok (.aload_n 0, 1) := eX12_blinds_0.1
theorem dX12_blinds_1 : decode cX12_blinds 1 = .ok (.getfield 35, 3) := eX12_blinds_0.2.1
theorem dX12_blinds_4 : decode cX12_blinds 4 = .ok (.aload_n 0, 1) := eX12_blinds_0.2.2.1
theorem dX12_blinds_5 : decode cX12_blinds 5 = .ok (.getfield 35, 3) := eX12_blinds_0.2.2.2.1
theorem dX12_blinds_8 : decode cX12_blinds 8 = .ok (.bipush 9, 2) := eX12_blinds_0.2.2.2.2.1
theorem dX12_blinds_10 : decode cX12_blinds 10 = .ok (.iaload, 1) := eX12_blinds_0.2.2.2.2.2.1
theorem dX12_blinds_11 : decode cX12_blinds 11 = .ok (.iconst 1, 1) := eX12_blinds_0.2.2.2.2.2.2.1
theorem dX12_blinds_12 : decode cX12_blinds 12 = .ok (.isub, 1) := eX12_blinds_0.2.2.2.2.2.2.2.1
theorem eX12_blinds_13 : decode cX12_blinds 13 = .ok (.invokestatic 279, 3) ∧ decode cX12_blinds 16 = .ok (.iconst 2, 1) ∧ decode cX12_blinds 17 = .ok (.iadd, 1) ∧ decode cX12_blinds 18 = .ok (.iaload, 1) ∧ decode cX12_blinds 19 = .ok (.istore_n 2, 1) ∧ decode cX12_blinds 20 = .ok (.aload_n 0, 1) ∧ decode cX12_blinds 21 = .ok (.aload_n 0, 1) ∧ decode cX12_blinds 22 = .ok (.iload_n 1, 1) ∧ True := dkl_ok (c := cX12_blinds) [(.invokestatic 279, 3), (.iconst 2, 1), (.iadd, 1), (.iaload, 1), (.istore_n 2, 1), (.aload_n 0, 1), (.aload_n 0, 1), (.iload_n 1, 1)] 13 (by decide +kernel)
theorem dX12_blinds_13 : decode cX12_blinds 13 = .ok (.invokestatic 279, 3) := eX12_blinds_13.1
theorem dX12_blinds_16 : decode cX12_blinds 16 = .ok (.iconst 2, 1) := eX12_blinds_13.2.1
theorem dX12_blinds_17 : decode cX12_blinds 17 = .ok (.iadd, 1) := eX12_blinds_13.2.2.1
theorem dX12_blinds_18 : decode cX12_blinds 18 = .ok (.iaload, 1) := eX12_blinds_13.2.2.2.1
theorem dX12_blinds_19 : decode cX12_blinds 19 = .ok (.istore_n 2, 1) := eX12_blinds_13.2.2.2.2.1
theorem dX12_blinds_20 : decode cX12_blinds 20 = .ok (.aload_n 0, 1) := eX12_blinds_13.2.2.2.2.2.1
theorem dX12_blinds_21 : decode cX12_blinds 21 = .ok (.aload_n 0, 1) := eX12_blinds_13.2.2.2.2.2.2.1
theorem dX12_blinds_22 : decode cX12_blinds 22 = .ok (.iload_n 1, 1) := eX12_blinds_13.2.2.2.2.2.2.2.1
theorem eX12_blinds_23 : decode cX12_blinds 23 = .ok (.aload_n 0, 1) ∧ decode cX12_blinds 24 = .ok (.getfield 35, 3) ∧ decode cX12_blinds 27 = .ok (.iconst 5, 1) ∧ decode cX12_blinds 28 = .ok (.iaload, 1) ∧ decode cX12_blinds 29 = .ok (.invokevirtual 336, 3) ∧ decode cX12_blinds 32 = .ok (.iload_n 2, 1) ∧ decode cX12_blinds 33 = .ok (.invokestatic 342, 3) ∧ decode cX12_blinds 36 = .ok (.putfield 346, 3) ∧ True := dkl_ok (c := cX12_blinds) [(.aload_n 0, 1), (.getfield 35, 3), (.iconst 5, 1), (.iaload, 1), (.invokevirtual 336, 3), (.iload_n 2, 1), (.invokestatic 342, 3), (.putfield 346, 3)] 23 (by decide +kernel)
theorem dX12_blinds_23 : decode cX12_blinds 23 = .ok (.aload_n 0, 1) := eX12_blinds_23.1
theorem dX12_blinds_24 : decode cX12_blinds 24 = .ok (.getfield 35, 3) := eX12_blinds_23.2.1
theorem dX12_blinds_27 : decode cX12_blinds 27 = .ok (.iconst 5, 1) := eX12_blinds_23.2.2.1
theorem dX12_blinds_28 : decode cX12_blinds 28 = .ok (.iaload, 1) := eX12_blinds_23.2.2.2.1
theorem dX12_blinds_29 : decode cX12_blinds 29 = .ok (.invokevirtual 336, 3) := eX12_blinds_23.2.2.2.2.1
theorem dX12_blinds_32 : decode cX12_blinds 32 = .ok (.iload_n 2, 1) := eX12_blinds_23.2.2.2.2.2.1
theorem dX12_blinds_33 : decode cX12_blinds 33 = .ok (.invokestatic 342, 3) := eX12_blinds_23.2.2.2.2.2.2.1
theorem dX12_blinds_36 : decode cX12_blinds 36 = .ok (.putfield 346, 3) := eX12_blinds_23.2.2.2.2.2.2.2.1
theorem eX12_blinds_39 : decode cX12_blinds 39 = .ok (.aload_n 0, 1) ∧ decode cX12_blinds 40 = .ok (.aload_n 0, 1) ∧ decode cX12_blinds 41 = .ok (.iload_n 1, 1) ∧ decode cX12_blinds 42 = .ok (.invokevirtual 339, 3) ∧ decode cX12_blinds 45 = .ok (.iload_n 2, 1) ∧ decode cX12_blinds 46 = .ok (.invokestatic 342, 3) ∧ decode cX12_blinds 49 = .ok (.putfield 349, 3) ∧ decode cX12_blinds 52 = .ok (.return_, 1) ∧ True := dkl_ok (c := cX12_blinds) [(.aload_n 0, 1), (.aload_n 0, 1), (.iload_n 1, 1), (.invokevirtual 339, 3), (.iload_n 2, 1), (.invokestatic 342, 3), (.putfield 349, 3), (.return_, 1)] 39 (by decide +kernel)
theorem dX12_blinds_39 : decode cX12_blinds 39 = .ok (.aload_n 0, 1) := eX12_blinds_39.1
theorem dX12_blinds_40 : decode cX12_blinds 40 = .ok (.aload_n 0, 1) := eX12_blinds_39.2.1
theorem dX12_blinds_41 : decode cX12_blinds 41 = .ok (.iload_n 1, 1) := eX12_blinds_39.2.2.1
theorem dX12_blinds_42 : decode cX12_blinds 42 = .ok (.invokevirtual 339, 3) := eX12_blinds_39.2.2.2.1
theorem dX12_blinds_45 : decode cX12_blinds 45 = .ok (.iload_n 2, 1) := eX12_blinds_39.2.2.2.2.1
theorem dX12_blinds_46 : decode cX12_blinds 46 = .ok (.invokestatic 342, 3) := eX12_blinds_39.2.2.2.2.2.1
theorem dX12_blinds_49 : decode cX12_blinds 49 = .ok (.putfield 349, 3) := eX12_blinds_39.2.2.2.2.2.2.1
theorem dX12_blinds_52 : decode cX12_blinds 52 = .ok (.return_, 1) := eX12_blinds_39.2.2.2.2.2.2.2.1
theorem eX12_isImpossible_0 : decode cX12_isImpossible 0 = .ok (.aload_n 0, 1) ∧ decode cX12_isImpossible 1 = .ok (.iload_n 1, 1) ∧ decode cX12_isImpossible 2 = .ok (.aload_n 0, 1) ∧ decode cX12_isImpossible 3 = .ok (.getfield 35, 3) ∧ decode cX12_isImpossible 6 = .ok (.iconst 5, 1) ∧ decode cX12_isImpossible 7 = .ok (.iaload, 1) ∧ decode cX12_isImpossible 8 = .ok (.invokevirtual 336, 3) ∧ decode cX12_isImpossible 11 = .ok (.aload_n 0, 1) ∧ True := dkl_ok (c := cX12_isImpossible) [(.aload_n 0, 1), (.iload_n 1, 1), (.aload_n 0, 1), (.getfield 35, 3), (.iconst 5, 1), (.iaload, 1), (.invokevirtual 336, 3), (.aload_n 0, 1)] 0 (by decide +kernel)
theorem dX12_isImpossible_0 : decode cX12_isImpossible 0 = .ok (.aload_n 0, 1) := eX12_isImpossible_0.1
theorem dX12_isImpossible_1 : decode cX12_isImpossible 1 = .ok (.iload_n 1, 1) := eX12_isImpossible_0.2.1
theorem dX12_isImpossible_2 : decode cX12_isImpossible 2 = .ok (.aload_n 0, 1) := eX12_isImpossible_0.2.2.1
theorem dX12_isImpossible_3 : decode cX12_isImpossible 3 = .ok (.getfield 35, 3) := eX12_isImpossible_0.2.2.2.1
theorem dX12_isImpossible_6 : decode cX12_isImpossible 6 = .ok (.iconst 5, 1) := eX12_isImpossible_0.2.2.2.2.1
theorem dX12_isImpossible_7 : decode cX12_isImpossible 7 = .ok (.iaload, 1) := eX12_isImpossible_0.2.2.2.2.2.1
theorem dX12_isImpossible_8 : decode cX12_isImpossible 8 = .ok (.invokevirtual 336, 3) := eX12_isImpossible_0.2.2.2.2.2.2.1
theorem dX12_isImpossible_11 : decode cX12_isImpossible 11 = .ok (.aload_n 0, 1) := eX12_isImpossible_0.2.2.2.2.2.2.2.1
theorem eX12_isImpossible_12 : decode cX12_isImpossible 12 = .ok (.getfield 35, 3) ∧ decode cX12_isImpossible 15 = .ok (.aload_n 0, 1) ∧ decode cX12_isImpossible 16 = .ok (.getfield 35, 3) ∧ decode cX12_isImpossible 19 = .ok (.bipush 9, 2) ∧ decode cX12_isImpossible 21 = .ok (.iaload, 1) ∧ decode cX12_isImpossible 22 = .ok (.iconst 1, 1) ∧ decode cX12_isImpossible 23 = .ok (.isub, 1) ∧ decode cX12_isImpossible 24 = .ok (.invokestatic 279, 3) ∧ True := dkl_ok (c := cX12_isImpossible) [(.getfield 35, 3), (.aload_n 0, 1), (.getfield 35, 3), (.bipush 9, 2), (.iaload, 1), (.iconst 1, 1), (.isub, 1), (.invokestatic 279, 3)] 12 (by decide +kernel)
theorem dX12_isImpossible_12 : decode cX12_isImpossible 12 = .ok (.getfield 35, 3) := eX12_isImpossible_12.1
theorem dX12_isImpossible_15 : decode cX12_isImpossible 15 = .ok (.aload_n 0, 1) := eX12_isImpossible_12.2.1
theorem dX12_isImpossible_16 : decode cX12_isImpossible 16 = .ok (.getfield 35, 3) := eX12_isImpossible_12.2.2.1
theorem dX12_isImpossible_19 : decode cX12_isImpossible 19 = .ok (.bipush 9, 2) := eX12_isImpossible_12.2.2.2.1
theorem dX12_isImpossible_21 : decode cX12_isImpossible 21 = .ok (.iaload, 1) := eX12_isImpossible_12.2.2.2.2.1
theorem dX12_isImpossible_22 : decode cX12_isImpossible 22 = .ok (.iconst 1, 1) := eX12_isImpossible_12.2.2.2.2.2.1
theorem dX12_isImpossible_23 : decode cX12_isImpossible 23 = .ok (.isub, 1) := eX12_isImpossible_12.2.2.2.2.2.2.1
theorem dX12_isImpossible_24 : decode cX12_isImpossible 24 = .ok (.invokestatic 279, 3) := eX12_isImpossible_12.2.2.2.2.2.2.2.1
theorem eX12_isImpossible_27 : decode cX12_isImpossible 27 = .ok (.iconst 2, 1) ∧ decode cX12_isImpossible 28 = .ok (.iadd, 1) ∧ decode cX12_isImpossible 29 = .ok (.iaload, 1) ∧ decode cX12_isImpossible 30 = .ok (.if_icmp .ge 7, 3) ∧ decode cX12_isImpossible 33 = .ok (.iconst 1, 1) ∧ decode cX12_isImpossible 34 = .ok (.goto 4, 3) ∧ decode cX12_isImpossible 37 = .ok (.iconst 0, 1) ∧ decode cX12_isImpossible 38 = .ok (.ireturn, 1) ∧ True := dkl_ok (c := cX12_isImpossible) [(.iconst 2, 1), (.iadd, 1), (.iaload, 1), (.if_icmp .ge 7, 3), (.iconst 1, 1), (.goto 4, 3), (.iconst 0, 1), (.ireturn, 1)] 27 (by decide +kernel)
theorem dX12_isImpossible_27 : decode cX12_isImpossible 27 = .ok (.iconst 2, 1) := eX12_isImpossible_27.1
theorem dX12_isImpossible_28 : decode cX12_isImpossible 28 = .ok (.iadd, 1) := eX12_isImpossible_27.2.1
theorem dX12_isImpossible_29 : decode cX12_isImpossible 29 = .ok (.iaload, 1) := eX12_isImpossible_27.2.2.1
theorem dX12_isImpossible_30 : decode cX12_isImpossible 30 = .ok (.if_icmp .ge 7, 3) := eX12_isImpossible_27.2.2.2.1
theorem dX12_isImpossible_33 : decode cX12_isImpossible 33 = .ok (.iconst 1, 1) := eX12_isImpossible_27.2.2.2.2.1
theorem dX12_isImpossible_34 : decode cX12_isImpossible 34 = .ok (.goto 4, 3) := eX12_isImpossible_27.2.2.2.2.2.1
theorem dX12_isImpossible_37 : decode cX12_isImpossible 37 = .ok (.iconst 0, 1) := eX12_isImpossible_27.2.2.2.2.2.2.1
theorem dX12_isImpossible_38 : decode cX12_isImpossible 38 = .ok (.ireturn, 1) := eX12_isImpossible_27.2.2.2.2.2.2.2.1
theorem eX12_whyNot_0 : decode cX12_whyNot 0 = .ok (.aload_n 0, 1) ∧ decode cX12_whyNot 1 = .ok (.iload_n 1, 1) ∧ decode cX12_whyNot 2 = .ok (.invokevirtual 290, 3) ∧ decode cX12_whyNot 5 = .ok (.ifCond .ne 7, 3) ∧ decode cX12_whyNot 8 = .ok (.iconst 2, 1) ∧ decode cX12_whyNot 9 = .ok (.goto 34, 3) ∧ decode cX12_whyNot 12 = .ok (.aload_n 0, 1) ∧ decode cX12_whyNot 13 = .ok (.getfield 35, 3) ∧ True := dkl_ok (c := cX12_whyNot) [(.aload_n 0, 1), (.iload_n 1, 1), (.invokevirtual 290, 3), (.ifCond .ne 7, 3), (.iconst 2, 1), (.goto 34, 3), (.aload_n 0, 1), (.getfield 35, 3)] 0 (by decide +kernel)
theorem dX12_whyNot_0 : decode cX12_whyNot 0 = .ok (.aload_n 0, 1) := eX12_whyNot_0.1
theorem dX12_whyNot_1 : decode cX12_whyNot 1 = .ok (.iload_n 1, 1) := eX12_whyNot_0.2.1
theorem dX12_whyNot_2 : decode cX12_whyNot 2 = .ok (.invokevirtual 290, 3) := eX12_whyNot_0.2.2.1
theorem dX12_whyNot_5 : decode cX12_whyNot 5 = .ok (.ifCond .ne 7, 3) := eX12_whyNot_0.2.2.2.1
theorem dX12_whyNot_8 : decode cX12_whyNot 8 = .ok (.iconst 2, 1) := eX12_whyNot_0.2.2.2.2.1
theorem dX12_whyNot_9 : decode cX12_whyNot 9 = .ok (.goto 34, 3) := eX12_whyNot_0.2.2.2.2.2.1
theorem dX12_whyNot_12 : decode cX12_whyNot 12 = .ok (.aload_n 0, 1) := eX12_whyNot_0.2.2.2.2.2.2.1
theorem dX12_whyNot_13 : decode cX12_whyNot 13 = .ok (.getfield 35, 3) := eX12_whyNot_0.2.2.2.2.2.2.2.1
theorem eX12_whyNot_16 : decode cX12_whyNot 16 = .ok (.bipush 7, 2) ∧ decode cX12_whyNot 18 = .ok (.iaload, 1) ∧ decode cX12_whyNot 19 = .ok (.ifCond .ne 8, 3) ∧ decode cX12_whyNot 22 = .ok (.bipush 8, 2) ∧ decode cX12_whyNot 24 = .ok (.goto 19, 3) ∧ decode cX12_whyNot 27 = .ok (.aload_n 0, 1) ∧ decode cX12_whyNot 28 = .ok (.getfield 35, 3) ∧ decode cX12_whyNot 31 = .ok (.bipush 6, 2) ∧ True := dkl_ok (c := cX12_whyNot) [(.bipush 7, 2), (.iaload, 1), (.ifCond .ne 8, 3), (.bipush 8, 2), (.goto 19, 3), (.aload_n 0, 1), (.getfield 35, 3), (.bipush 6, 2)] 16 (by decide +kernel)
theorem dX12_whyNot_16 : decode cX12_whyNot 16 = .ok (.bipush 7, 2) := eX12_whyNot_16.1
theorem dX12_whyNot_18 : decode cX12_whyNot 18 = .ok (.iaload, 1) := eX12_whyNot_16.2.1
theorem dX12_whyNot_19 : decode cX12_whyNot 19 = .ok (.ifCond .ne 8, 3) := eX12_whyNot_16.2.2.1
theorem dX12_whyNot_22 : decode cX12_whyNot 22 = .ok (.bipush 8, 2) := eX12_whyNot_16.2.2.2.1
theorem dX12_whyNot_24 : decode cX12_whyNot 24 = .ok (.goto 19, 3) := eX12_whyNot_16.2.2.2.2.1
theorem dX12_whyNot_27 : decode cX12_whyNot 27 = .ok (.aload_n 0, 1) := eX12_whyNot_16.2.2.2.2.2.1
theorem dX12_whyNot_28 : decode cX12_whyNot 28 = .ok (.getfield 35, 3) := eX12_whyNot_16.2.2.2.2.2.2.1
theorem dX12_whyNot_31 : decode cX12_whyNot 31 = .ok (.bipush 6, 2) := eX12_whyNot_16.2.2.2.2.2.2.2.1
theorem eX12_whyNot_33 : decode cX12_whyNot 33 = .ok (.iaload, 1) ∧ decode cX12_whyNot 34 = .ok (.iload_n 1, 1) ∧ decode cX12_whyNot 35 = .ok (.if_icmp .ne 7, 3) ∧ decode cX12_whyNot 38 = .ok (.iconst 5, 1) ∧ decode cX12_whyNot 39 = .ok (.goto 4, 3) ∧ decode cX12_whyNot 42 = .ok (.iconst 0, 1) ∧ decode cX12_whyNot 43 = .ok (.ireturn, 1) ∧ True := dkl_ok (c := cX12_whyNot) [(.iaload, 1), (.iload_n 1, 1), (.if_icmp .ne 7, 3), (.iconst 5, 1), (.goto 4, 3), (.iconst 0, 1), (.ireturn, 1)] 33 (by decide +kernel)
theorem dX12_whyNot_33 : decode cX12_whyNot 33 = .ok (.iaload, 1) := eX12_whyNot_33.1
theorem dX12_whyNot_34 : decode cX12_whyNot 34 = .ok (.iload_n 1, 1) := eX12_whyNot_33.2.1
theorem dX12_whyNot_35 : decode cX12_whyNot 35 = .ok (.if_icmp .ne 7, 3) := eX12_whyNot_33.2.2.1
theorem dX12_whyNot_38 : decode cX12_whyNot 38 = .ok (.iconst 5, 1) := eX12_whyNot_33.2.2.2.1
theorem dX12_whyNot_39 : decode cX12_whyNot 39 = .ok (.goto 4, 3) := eX12_whyNot_33.2.2.2.2.1
theorem dX12_whyNot_42 : decode cX12_whyNot 42 = .ok (.iconst 0, 1) := eX12_whyNot_33.2.2.2.2.2.1
theorem dX12_whyNot_43 : decode cX12_whyNot 43 = .ok (.ireturn, 1) := eX12_whyNot_33.2.2.2.2.2.2.1
theorem eX12_impossible_0 : decode cX12_impossible 0 = .ok (.aload_n 0, 1) ∧ decode cX12_impossible 1 = .ok (.iconst 0, 1) ∧ decode cX12_impossible 2 = .ok (.putfield 59, 3) ∧ decode cX12_impossible 5 = .ok (.aload_n 0, 1) ∧ decode cX12_impossible 6 = .ok (.aload_n 0, 1) ∧ decode cX12_impossible 7 = .ok (.iload_n 1, 1) ∧ decode cX12_impossible 8 = .ok (.invokevirtual 352, 3) ∧ decode cX12_impossible 11 = .ok (.putfield 62, 3) ∧ True := dkl_ok (c := cX12_impossible) [(.aload_n 0, 1), (.iconst 0, 1), (.putfield 59, 3), (.aload_n 0, 1), (.aload_n 0, 1), (.iload_n 1, 1), (.invokevirtual 352, 3), (.putfield 62, 3)] 0 (by decide +kernel)
theorem dX12_impossible_0 : decode cX12_impossible 0 = .ok (.aload_n 0, 1) := eX12_impossible_0.1
theorem dX12_impossible_1 : decode cX12_impossible 1 = .ok (.iconst 0, 1) := eX12_impossible_0.2.1
theorem dX12_impossible_2 : decode cX12_impossible 2 = .ok (.putfield 59, 3) := eX12_impossible_0.2.2.1
theorem dX12_impossible_5 : decode cX12_impossible 5 = .ok (.aload_n 0, 1) := eX12_impossible_0.2.2.2.1
theorem dX12_impossible_6 : decode cX12_impossible 6 = .ok (.aload_n 0, 1) := eX12_impossible_0.2.2.2.2.1
theorem dX12_impossible_7 : decode cX12_impossible 7 = .ok (.iload_n 1, 1) := eX12_impossible_0.2.2.2.2.2.1
theorem dX12_impossible_8 : decode cX12_impossible 8 = .ok (.invokevirtual 352, 3) := eX12_impossible_0.2.2.2.2.2.2.1
theorem dX12_impossible_11 : decode cX12_impossible 11 = .ok (.putfield 62, 3) := eX12_impossible_0.2.2.2.2.2.2.2.1
theorem eX12_impossible_14 : decode cX12_impossible 14 = .ok (.aload_n 0, 1) ∧ decode cX12_impossible 15 = .ok (.getfield 62, 3) ∧ decode cX12_impossible 18 = .ok (.ifCond .le 5, 3) ∧ decode cX12_impossible 21 = .ok (.iconst (-1), 1) ∧ decode cX12_impossible 22 = .ok (.ireturn, 1) ∧ decode cX12_impossible 23 = .ok (.aload_n 0, 1) ∧ decode cX12_impossible 24 = .ok (.iload_n 1, 1) ∧ decode cX12_impossible 25 = .ok (.invokevirtual 355, 3) ∧ True := dkl_ok (c := cX12_impossible) [(.aload_n 0, 1), (.getfield 62, 3), (.ifCond .le 5, 3), (.iconst (-1), 1), (.ireturn, 1), (.aload_n 0, 1), (.iload_n 1, 1), (.invokevirtual 355, 3)] 14 (by decide +kernel)
theorem dX12_impossible_14 : decode cX12_impossible 14 = .ok (.aload_n 0, 1) := eX12_impossible_14.1
theorem dX12_impossible_15 : decode cX12_impossible 15 = .ok (.getfield 62, 3) := eX12_impossible_14.2.1
theorem dX12_impossible_18 : decode cX12_impossible 18 = .ok (.ifCond .le 5, 3) := eX12_impossible_14.2.2.1
theorem dX12_impossible_21 : decode cX12_impossible 21 = .ok (.iconst (-1), 1) := eX12_impossible_14.2.2.2.1
theorem dX12_impossible_22 : decode cX12_impossible 22 = .ok (.ireturn, 1) := eX12_impossible_14.2.2.2.2.1
theorem dX12_impossible_23 : decode cX12_impossible 23 = .ok (.aload_n 0, 1) := eX12_impossible_14.2.2.2.2.2.1
theorem dX12_impossible_24 : decode cX12_impossible 24 = .ok (.iload_n 1, 1) := eX12_impossible_14.2.2.2.2.2.2.1
theorem dX12_impossible_25 : decode cX12_impossible 25 = .ok (.invokevirtual 355, 3) := eX12_impossible_14.2.2.2.2.2.2.2.1
theorem eX12_impossible_28 : decode cX12_impossible 28 = .ok (.ifCond .eq 7, 3) ∧ decode cX12_impossible 31 = .ok (.iconst 1, 1) ∧ decode cX12_impossible 32 = .ok (.goto 4, 3) ∧ decode cX12_impossible 35 = .ok (.iconst 0, 1) ∧ decode cX12_impossible 36 = .ok (.ireturn, 1) ∧ True := dkl_ok (c := cX12_impossible) [(.ifCond .eq 7, 3), (.iconst 1, 1), (.goto 4, 3), (.iconst 0, 1), (.ireturn, 1)] 28 (by decide +kernel)
theorem dX12_impossible_28 : decode cX12_impossible 28 = .ok (.ifCond .eq 7, 3) := eX12_impossible_28.1
theorem dX12_impossible_31 : decode cX12_impossible 31 = .ok (.iconst 1, 1) := eX12_impossible_28.2.1
theorem dX12_impossible_32 : decode cX12_impossible 32 = .ok (.goto 4, 3) := eX12_impossible_28.2.2.1
theorem dX12_impossible_35 : decode cX12_impossible 35 = .ok (.iconst 0, 1) := eX12_impossible_28.2.2.2.1
theorem dX12_impossible_36 : decode cX12_impossible 36 = .ok (.ireturn, 1) := eX12_impossible_28.2.2.2.2.1
theorem eX12_blind_0 : decode cX12_blind 0 = .ok (.aload_n 0, 1) ∧ decode cX12_blind 1 = .ok (.iconst 0, 1) ∧ decode cX12_blind 2 = .ok (.putfield 59, 3) ∧ decode cX12_blind 5 = .ok (.aload_n 0, 1) ∧ decode cX12_blind 6 = .ok (.aload_n 0, 1) ∧ decode cX12_blind 7 = .ok (.iload_n 1, 1) ∧ decode cX12_blind 8 = .ok (.invokevirtual 352, 3) ∧ decode cX12_blind 11 = .ok (.putfield 62, 3) ∧ True := dkl_ok (c := cX12_blind) [(.aload_n 0, 1), (.iconst 0, 1), (.putfield 59, 3), (.aload_n 0, 1), (.aload_n 0, 1), (.iload_n 1, 1), (.invokevirtual 352, 3), (.putfield 62, 3)] 0 (by decide +kernel)
theorem dX12_blind_0 : decode cX12_blind 0 = .ok (.aload_n 0, 1) := eX12_blind_0.1
theorem dX12_blind_1 : decode cX12_blind 1 = .ok (.iconst 0, 1) := eX12_blind_0.2.1
theorem dX12_blind_2 : decode cX12_blind 2 = .ok (.putfield 59, 3) := eX12_blind_0.2.2.1
theorem dX12_blind_5 : decode cX12_blind 5 = .ok (.aload_n 0, 1) := eX12_blind_0.2.2.2.1
theorem dX12_blind_6 : decode cX12_blind 6 = .ok (.aload_n 0, 1) := eX12_blind_0.2.2.2.2.1
theorem dX12_blind_7 : decode cX12_blind 7 = .ok (.iload_n 1, 1) := eX12_blind_0.2.2.2.2.2.1
theorem dX12_blind_8 : decode cX12_blind 8 = .ok (.invokevirtual 352, 3) := eX12_blind_0.2.2.2.2.2.2.1
theorem dX12_blind_11 : decode cX12_blind 11 = .ok (.putfield 62, 3) := eX12_blind_0.2.2.2.2.2.2.2.1
theorem eX12_blind_14 : decode cX12_blind 14 = .ok (.aload_n 0, 1) ∧ decode cX12_blind 15 = .ok (.getfield 62, 3) ∧ decode cX12_blind 18 = .ok (.ifCond .le 5, 3) ∧ decode cX12_blind 21 = .ok (.iconst 0, 1) ∧ decode cX12_blind 22 = .ok (.ireturn, 1) ∧ decode cX12_blind 23 = .ok (.aload_n 0, 1) ∧ decode cX12_blind 24 = .ok (.iload_n 1, 1) ∧ decode cX12_blind 25 = .ok (.invokevirtual 358, 3) ∧ True := dkl_ok (c := cX12_blind) [(.aload_n 0, 1), (.getfield 62, 3), (.ifCond .le 5, 3), (.iconst 0, 1), (.ireturn, 1), (.aload_n 0, 1), (.iload_n 1, 1), (.invokevirtual 358, 3)] 14 (by decide +kernel)
theorem dX12_blind_14 : decode cX12_blind 14 = .ok (.aload_n 0, 1) := eX12_blind_14.1
theorem dX12_blind_15 : decode cX12_blind 15 = .ok (.getfield 62, 3) := eX12_blind_14.2.1
theorem dX12_blind_18 : decode cX12_blind 18 = .ok (.ifCond .le 5, 3) := eX12_blind_14.2.2.1
theorem dX12_blind_21 : decode cX12_blind 21 = .ok (.iconst 0, 1) := eX12_blind_14.2.2.2.1
theorem dX12_blind_22 : decode cX12_blind 22 = .ok (.ireturn, 1) := eX12_blind_14.2.2.2.2.1
theorem dX12_blind_23 : decode cX12_blind 23 = .ok (.aload_n 0, 1) := eX12_blind_14.2.2.2.2.2.1
theorem dX12_blind_24 : decode cX12_blind 24 = .ok (.iload_n 1, 1) := eX12_blind_14.2.2.2.2.2.2.1
theorem dX12_blind_25 : decode cX12_blind 25 = .ok (.invokevirtual 358, 3) := eX12_blind_14.2.2.2.2.2.2.2.1
theorem eX12_blind_28 : decode cX12_blind 28 = .ok (.aload_n 0, 1) ∧ decode cX12_blind 29 = .ok (.aload_n 0, 1) ∧ decode cX12_blind 30 = .ok (.getfield 346, 3) ∧ decode cX12_blind 33 = .ok (.aload_n 0, 1) ∧ decode cX12_blind 34 = .ok (.getfield 349, 3) ∧ decode cX12_blind 37 = .ok (.invokevirtual 361, 3) ∧ decode cX12_blind 40 = .ok (.ireturn, 1) ∧ True := dkl_ok (c := cX12_blind) [(.aload_n 0, 1), (.aload_n 0, 1), (.getfield 346, 3), (.aload_n 0, 1), (.getfield 349, 3), (.invokevirtual 361, 3), (.ireturn, 1)] 28 (by decide +kernel)
theorem dX12_blind_28 : decode cX12_blind 28 = .ok (.aload_n 0, 1) := eX12_blind_28.1
theorem dX12_blind_29 : decode cX12_blind 29 = .ok (.aload_n 0, 1) := eX12_blind_28.2.1
theorem dX12_blind_30 : decode cX12_blind 30 = .ok (.getfield 346, 3) := eX12_blind_28.2.2.1
theorem dX12_blind_33 : decode cX12_blind 33 = .ok (.aload_n 0, 1) := eX12_blind_28.2.2.2.1
theorem dX12_blind_34 : decode cX12_blind 34 = .ok (.getfield 349, 3) := eX12_blind_28.2.2.2.2.1
theorem dX12_blind_37 : decode cX12_blind 37 = .ok (.invokevirtual 361, 3) := eX12_blind_28.2.2.2.2.2.1
theorem dX12_blind_40 : decode cX12_blind 40 = .ok (.ireturn, 1) := eX12_blind_28.2.2.2.2.2.2.1
theorem eX12_honest_0 : decode cX12_honest 0 = .ok (.aload_n 0, 1) ∧ decode cX12_honest 1 = .ok (.iconst 0, 1) ∧ decode cX12_honest 2 = .ok (.putfield 59, 3) ∧ decode cX12_honest 5 = .ok (.aload_n 0, 1) ∧ decode cX12_honest 6 = .ok (.iconst 0, 1) ∧ decode cX12_honest 7 = .ok (.putfield 62, 3) ∧ decode cX12_honest 10 = .ok (.aload_n 0, 1) ∧ decode cX12_honest 11 = .ok (.iload_n 1, 1) ∧ True := dkl_ok (c := cX12_honest) [(.aload_n 0, 1), (.iconst 0, 1), (.putfield 59, 3), (.aload_n 0, 1), (.iconst 0, 1), (.putfield 62, 3), (.aload_n 0, 1), (.iload_n 1, 1)] 0 (by decide +kernel)
theorem dX12_honest_0 : decode cX12_honest 0 = .ok (.aload_n 0, 1) := eX12_honest_0.1
theorem dX12_honest_1 : decode cX12_honest 1 = .ok (.iconst 0, 1) := eX12_honest_0.2.1
theorem dX12_honest_2 : decode cX12_honest 2 = .ok (.putfield 59, 3) := eX12_honest_0.2.2.1
theorem dX12_honest_5 : decode cX12_honest 5 = .ok (.aload_n 0, 1) := eX12_honest_0.2.2.2.1
theorem dX12_honest_6 : decode cX12_honest 6 = .ok (.iconst 0, 1) := eX12_honest_0.2.2.2.2.1
theorem dX12_honest_7 : decode cX12_honest 7 = .ok (.putfield 62, 3) := eX12_honest_0.2.2.2.2.2.1
theorem dX12_honest_10 : decode cX12_honest 10 = .ok (.aload_n 0, 1) := eX12_honest_0.2.2.2.2.2.2.1
theorem dX12_honest_11 : decode cX12_honest 11 = .ok (.iload_n 1, 1) := eX12_honest_0.2.2.2.2.2.2.2.1
theorem eX12_honest_12 : decode cX12_honest 12 = .ok (.invokevirtual 290, 3) ∧ decode cX12_honest 15 = .ok (.ifCond .ne 9, 3) ∧ decode cX12_honest 18 = .ok (.aload_n 0, 1) ∧ decode cX12_honest 19 = .ok (.iconst 2, 1) ∧ decode cX12_honest 20 = .ok (.invokevirtual 74, 3) ∧ decode cX12_honest 23 = .ok (.ireturn, 1) ∧ decode cX12_honest 24 = .ok (.aload_n 0, 1) ∧ decode cX12_honest 25 = .ok (.aload_n 0, 1) ∧ True := dkl_ok (c := cX12_honest) [(.invokevirtual 290, 3), (.ifCond .ne 9, 3), (.aload_n 0, 1), (.iconst 2, 1), (.invokevirtual 74, 3), (.ireturn, 1), (.aload_n 0, 1), (.aload_n 0, 1)] 12 (by decide +kernel)
theorem dX12_honest_12 : decode cX12_honest 12 = .ok (.invokevirtual 290, 3) := eX12_honest_12.1
theorem dX12_honest_15 : decode cX12_honest 15 = .ok (.ifCond .ne 9, 3) := eX12_honest_12.2.1
theorem dX12_honest_18 : decode cX12_honest 18 = .ok (.aload_n 0, 1) := eX12_honest_12.2.2.1
theorem dX12_honest_19 : decode cX12_honest 19 = .ok (.iconst 2, 1) := eX12_honest_12.2.2.2.1
theorem dX12_honest_20 : decode cX12_honest 20 = .ok (.invokevirtual 74, 3) := eX12_honest_12.2.2.2.2.1
theorem dX12_honest_23 : decode cX12_honest 23 = .ok (.ireturn, 1) := eX12_honest_12.2.2.2.2.2.1
theorem dX12_honest_24 : decode cX12_honest 24 = .ok (.aload_n 0, 1) := eX12_honest_12.2.2.2.2.2.2.1
theorem dX12_honest_25 : decode cX12_honest 25 = .ok (.aload_n 0, 1) := eX12_honest_12.2.2.2.2.2.2.2.1
theorem eX12_honest_26 : decode cX12_honest 26 = .ok (.getfield 35, 3) ∧ decode cX12_honest 29 = .ok (.bipush 22, 2) ∧ decode cX12_honest 31 = .ok (.iload_n 1, 1) ∧ decode cX12_honest 32 = .ok (.iadd, 1) ∧ decode cX12_honest 33 = .ok (.iaload, 1) ∧ decode cX12_honest 34 = .ok (.aload_n 0, 1) ∧ decode cX12_honest 35 = .ok (.getfield 35, 3) ∧ decode cX12_honest 38 = .ok (.bipush 28, 2) ∧ True := dkl_ok (c := cX12_honest) [(.getfield 35, 3), (.bipush 22, 2), (.iload_n 1, 1), (.iadd, 1), (.iaload, 1), (.aload_n 0, 1), (.getfield 35, 3), (.bipush 28, 2)] 26 (by decide +kernel)
theorem dX12_honest_26 : decode cX12_honest 26 = .ok (.getfield 35, 3) := eX12_honest_26.1
theorem dX12_honest_29 : decode cX12_honest 29 = .ok (.bipush 22, 2) := eX12_honest_26.2.1
theorem dX12_honest_31 : decode cX12_honest 31 = .ok (.iload_n 1, 1) := eX12_honest_26.2.2.1
theorem dX12_honest_32 : decode cX12_honest 32 = .ok (.iadd, 1) := eX12_honest_26.2.2.2.1
theorem dX12_honest_33 : decode cX12_honest 33 = .ok (.iaload, 1) := eX12_honest_26.2.2.2.2.1
theorem dX12_honest_34 : decode cX12_honest 34 = .ok (.aload_n 0, 1) := eX12_honest_26.2.2.2.2.2.1
theorem dX12_honest_35 : decode cX12_honest 35 = .ok (.getfield 35, 3) := eX12_honest_26.2.2.2.2.2.2.1
theorem dX12_honest_38 : decode cX12_honest 38 = .ok (.bipush 28, 2) := eX12_honest_26.2.2.2.2.2.2.2.1
theorem eX12_honest_40 : decode cX12_honest 40 = .ok (.iload_n 1, 1) ∧ decode cX12_honest 41 = .ok (.iadd, 1) ∧ decode cX12_honest 42 = .ok (.iaload, 1) ∧ decode cX12_honest 43 = .ok (.isub, 1) ∧ decode cX12_honest 44 = .ok (.iconst 1, 1) ∧ decode cX12_honest 45 = .ok (.iadd, 1) ∧ decode cX12_honest 46 = .ok (.i2l, 1) ∧ decode cX12_honest 47 = .ok (.aload_n 0, 1) ∧ True := dkl_ok (c := cX12_honest) [(.iload_n 1, 1), (.iadd, 1), (.iaload, 1), (.isub, 1), (.iconst 1, 1), (.iadd, 1), (.i2l, 1), (.aload_n 0, 1)] 40 (by decide +kernel)
theorem dX12_honest_40 : decode cX12_honest 40 = .ok (.iload_n 1, 1) := eX12_honest_40.1
theorem dX12_honest_41 : decode cX12_honest 41 = .ok (.iadd, 1) := eX12_honest_40.2.1
theorem dX12_honest_42 : decode cX12_honest 42 = .ok (.iaload, 1) := eX12_honest_40.2.2.1
theorem dX12_honest_43 : decode cX12_honest 43 = .ok (.isub, 1) := eX12_honest_40.2.2.2.1
theorem dX12_honest_44 : decode cX12_honest 44 = .ok (.iconst 1, 1) := eX12_honest_40.2.2.2.2.1
theorem dX12_honest_45 : decode cX12_honest 45 = .ok (.iadd, 1) := eX12_honest_40.2.2.2.2.2.1
theorem dX12_honest_46 : decode cX12_honest 46 = .ok (.i2l, 1) := eX12_honest_40.2.2.2.2.2.2.1
theorem dX12_honest_47 : decode cX12_honest 47 = .ok (.aload_n 0, 1) := eX12_honest_40.2.2.2.2.2.2.2.1
theorem eX12_honest_48 : decode cX12_honest 48 = .ok (.getfield 35, 3) ∧ decode cX12_honest 51 = .ok (.bipush 22, 2) ∧ decode cX12_honest 53 = .ok (.iload_n 1, 1) ∧ decode cX12_honest 54 = .ok (.iadd, 1) ∧ decode cX12_honest 55 = .ok (.iaload, 1) ∧ decode cX12_honest 56 = .ok (.iconst 2, 1) ∧ decode cX12_honest 57 = .ok (.iadd, 1) ∧ decode cX12_honest 58 = .ok (.i2l, 1) ∧ True := dkl_ok (c := cX12_honest) [(.getfield 35, 3), (.bipush 22, 2), (.iload_n 1, 1), (.iadd, 1), (.iaload, 1), (.iconst 2, 1), (.iadd, 1), (.i2l, 1)] 48 (by decide +kernel)
theorem dX12_honest_48 : decode cX12_honest 48 = .ok (.getfield 35, 3) := eX12_honest_48.1
theorem dX12_honest_51 : decode cX12_honest 51 = .ok (.bipush 22, 2) := eX12_honest_48.2.1
theorem dX12_honest_53 : decode cX12_honest 53 = .ok (.iload_n 1, 1) := eX12_honest_48.2.2.1
theorem dX12_honest_54 : decode cX12_honest 54 = .ok (.iadd, 1) := eX12_honest_48.2.2.2.1
theorem dX12_honest_55 : decode cX12_honest 55 = .ok (.iaload, 1) := eX12_honest_48.2.2.2.2.1
theorem dX12_honest_56 : decode cX12_honest 56 = .ok (.iconst 2, 1) := eX12_honest_48.2.2.2.2.2.1
theorem dX12_honest_57 : decode cX12_honest 57 = .ok (.iadd, 1) := eX12_honest_48.2.2.2.2.2.2.1
theorem dX12_honest_58 : decode cX12_honest 58 = .ok (.i2l, 1) := eX12_honest_48.2.2.2.2.2.2.2.1
theorem eX12_honest_59 : decode cX12_honest 59 = .ok (.invokevirtual 361, 3) ∧ decode cX12_honest 62 = .ok (.ireturn, 1) ∧ True := dkl_ok (c := cX12_honest) [(.invokevirtual 361, 3), (.ireturn, 1)] 59 (by decide +kernel)
theorem dX12_honest_59 : decode cX12_honest 59 = .ok (.invokevirtual 361, 3) := eX12_honest_59.1
theorem dX12_honest_62 : decode cX12_honest 62 = .ok (.ireturn, 1) := eX12_honest_59.2.1
theorem eX12_belief_0 : decode cX12_belief 0 = .ok (.aload_n 0, 1) ∧ decode cX12_belief 1 = .ok (.iconst 0, 1) ∧ decode cX12_belief 2 = .ok (.putfield 59, 3) ∧ decode cX12_belief 5 = .ok (.aload_n 0, 1) ∧ decode cX12_belief 6 = .ok (.aload_n 0, 1) ∧ decode cX12_belief 7 = .ok (.iload_n 1, 1) ∧ decode cX12_belief 8 = .ok (.invokevirtual 352, 3) ∧ decode cX12_belief 11 = .ok (.putfield 62, 3) ∧ True := dkl_ok (c := cX12_belief) [(.aload_n 0, 1), (.iconst 0, 1), (.putfield 59, 3), (.aload_n 0, 1), (.aload_n 0, 1), (.iload_n 1, 1), (.invokevirtual 352, 3), (.putfield 62, 3)] 0 (by decide +kernel)
theorem dX12_belief_0 : decode cX12_belief 0 = .ok (.aload_n 0, 1) := eX12_belief_0.1
theorem dX12_belief_1 : decode cX12_belief 1 = .ok (.iconst 0, 1) := eX12_belief_0.2.1
theorem dX12_belief_2 : decode cX12_belief 2 = .ok (.putfield 59, 3) := eX12_belief_0.2.2.1
theorem dX12_belief_5 : decode cX12_belief 5 = .ok (.aload_n 0, 1) := eX12_belief_0.2.2.2.1
theorem dX12_belief_6 : decode cX12_belief 6 = .ok (.aload_n 0, 1) := eX12_belief_0.2.2.2.2.1
theorem dX12_belief_7 : decode cX12_belief 7 = .ok (.iload_n 1, 1) := eX12_belief_0.2.2.2.2.2.1
theorem dX12_belief_8 : decode cX12_belief 8 = .ok (.invokevirtual 352, 3) := eX12_belief_0.2.2.2.2.2.2.1
theorem dX12_belief_11 : decode cX12_belief 11 = .ok (.putfield 62, 3) := eX12_belief_0.2.2.2.2.2.2.2.1
theorem eX12_belief_14 : decode cX12_belief 14 = .ok (.aload_n 0, 1) ∧ decode cX12_belief 15 = .ok (.getfield 62, 3) ∧ decode cX12_belief 18 = .ok (.ifCond .le 5, 3) ∧ decode cX12_belief 21 = .ok (.iconst 0, 1) ∧ decode cX12_belief 22 = .ok (.ireturn, 1) ∧ decode cX12_belief 23 = .ok (.aload_n 0, 1) ∧ decode cX12_belief 24 = .ok (.iload_n 1, 1) ∧ decode cX12_belief 25 = .ok (.invokevirtual 358, 3) ∧ True := dkl_ok (c := cX12_belief) [(.aload_n 0, 1), (.getfield 62, 3), (.ifCond .le 5, 3), (.iconst 0, 1), (.ireturn, 1), (.aload_n 0, 1), (.iload_n 1, 1), (.invokevirtual 358, 3)] 14 (by decide +kernel)
theorem dX12_belief_14 : decode cX12_belief 14 = .ok (.aload_n 0, 1) := eX12_belief_14.1
theorem dX12_belief_15 : decode cX12_belief 15 = .ok (.getfield 62, 3) := eX12_belief_14.2.1
theorem dX12_belief_18 : decode cX12_belief 18 = .ok (.ifCond .le 5, 3) := eX12_belief_14.2.2.1
theorem dX12_belief_21 : decode cX12_belief 21 = .ok (.iconst 0, 1) := eX12_belief_14.2.2.2.1
theorem dX12_belief_22 : decode cX12_belief 22 = .ok (.ireturn, 1) := eX12_belief_14.2.2.2.2.1
theorem dX12_belief_23 : decode cX12_belief 23 = .ok (.aload_n 0, 1) := eX12_belief_14.2.2.2.2.2.1
theorem dX12_belief_24 : decode cX12_belief 24 = .ok (.iload_n 1, 1) := eX12_belief_14.2.2.2.2.2.2.1
theorem dX12_belief_25 : decode cX12_belief 25 = .ok (.invokevirtual 358, 3) := eX12_belief_14.2.2.2.2.2.2.2.1
theorem eX12_belief_28 : decode cX12_belief 28 = .ok (.aload_n 0, 1) ∧ decode cX12_belief 29 = .ok (.getfield 35, 3) ∧ decode cX12_belief 32 = .ok (.bipush 6, 2) ∧ decode cX12_belief 34 = .ok (.iaload, 1) ∧ decode cX12_belief 35 = .ok (.istore_n 2, 1) ∧ decode cX12_belief 36 = .ok (.aload_n 0, 1) ∧ decode cX12_belief 37 = .ok (.getfield 346, 3) ∧ decode cX12_belief 40 = .ok (.aload_n 0, 1) ∧ True := dkl_ok (c := cX12_belief) [(.aload_n 0, 1), (.getfield 35, 3), (.bipush 6, 2), (.iaload, 1), (.istore_n 2, 1), (.aload_n 0, 1), (.getfield 346, 3), (.aload_n 0, 1)] 28 (by decide +kernel)
theorem dX12_belief_28 : decode cX12_belief 28 = .ok (.aload_n 0, 1) := eX12_belief_28.1
theorem dX12_belief_29 : decode cX12_belief 29 = .ok (.getfield 35, 3) := eX12_belief_28.2.1
theorem dX12_belief_32 : decode cX12_belief 32 = .ok (.bipush 6, 2) := eX12_belief_28.2.2.1
theorem dX12_belief_34 : decode cX12_belief 34 = .ok (.iaload, 1) := eX12_belief_28.2.2.2.1
theorem dX12_belief_35 : decode cX12_belief 35 = .ok (.istore_n 2, 1) := eX12_belief_28.2.2.2.2.1
theorem dX12_belief_36 : decode cX12_belief 36 = .ok (.aload_n 0, 1) := eX12_belief_28.2.2.2.2.2.1
theorem dX12_belief_37 : decode cX12_belief 37 = .ok (.getfield 346, 3) := eX12_belief_28.2.2.2.2.2.2.1
theorem dX12_belief_40 : decode cX12_belief 40 = .ok (.aload_n 0, 1) := eX12_belief_28.2.2.2.2.2.2.2.1
theorem eX12_belief_41 : decode cX12_belief 41 = .ok (.getfield 35, 3) ∧ decode cX12_belief 44 = .ok (.bipush 22, 2) ∧ decode cX12_belief 46 = .ok (.iload_n 2, 1) ∧ decode cX12_belief 47 = .ok (.iadd, 1) ∧ decode cX12_belief 48 = .ok (.iaload, 1) ∧ decode cX12_belief 49 = .ok (.aload_n 0, 1) ∧ decode cX12_belief 50 = .ok (.getfield 35, 3) ∧ decode cX12_belief 53 = .ok (.bipush 28, 2) ∧ True := dkl_ok (c := cX12_belief) [(.getfield 35, 3), (.bipush 22, 2), (.iload_n 2, 1), (.iadd, 1), (.iaload, 1), (.aload_n 0, 1), (.getfield 35, 3), (.bipush 28, 2)] 41 (by decide +kernel)
theorem dX12_belief_41 : decode cX12_belief 41 = .ok (.getfield 35, 3) := eX12_belief_41.1
theorem dX12_belief_44 : decode cX12_belief 44 = .ok (.bipush 22, 2) := eX12_belief_41.2.1
theorem dX12_belief_46 : decode cX12_belief 46 = .ok (.iload_n 2, 1) := eX12_belief_41.2.2.1
theorem dX12_belief_47 : decode cX12_belief 47 = .ok (.iadd, 1) := eX12_belief_41.2.2.2.1
theorem dX12_belief_48 : decode cX12_belief 48 = .ok (.iaload, 1) := eX12_belief_41.2.2.2.2.1
theorem dX12_belief_49 : decode cX12_belief 49 = .ok (.aload_n 0, 1) := eX12_belief_41.2.2.2.2.2.1
theorem dX12_belief_50 : decode cX12_belief 50 = .ok (.getfield 35, 3) := eX12_belief_41.2.2.2.2.2.2.1
theorem dX12_belief_53 : decode cX12_belief 53 = .ok (.bipush 28, 2) := eX12_belief_41.2.2.2.2.2.2.2.1
theorem eX12_belief_55 : decode cX12_belief 55 = .ok (.iload_n 2, 1) ∧ decode cX12_belief 56 = .ok (.iadd, 1) ∧ decode cX12_belief 57 = .ok (.iaload, 1) ∧ decode cX12_belief 58 = .ok (.isub, 1) ∧ decode cX12_belief 59 = .ok (.iconst 1, 1) ∧ decode cX12_belief 60 = .ok (.iadd, 1) ∧ decode cX12_belief 61 = .ok (.i2l, 1) ∧ decode cX12_belief 62 = .ok (.lmul, 1) ∧ True := dkl_ok (c := cX12_belief) [(.iload_n 2, 1), (.iadd, 1), (.iaload, 1), (.isub, 1), (.iconst 1, 1), (.iadd, 1), (.i2l, 1), (.lmul, 1)] 55 (by decide +kernel)
theorem dX12_belief_55 : decode cX12_belief 55 = .ok (.iload_n 2, 1) := eX12_belief_55.1
theorem dX12_belief_56 : decode cX12_belief 56 = .ok (.iadd, 1) := eX12_belief_55.2.1
theorem dX12_belief_57 : decode cX12_belief 57 = .ok (.iaload, 1) := eX12_belief_55.2.2.1
theorem dX12_belief_58 : decode cX12_belief 58 = .ok (.isub, 1) := eX12_belief_55.2.2.2.1
theorem dX12_belief_59 : decode cX12_belief 59 = .ok (.iconst 1, 1) := eX12_belief_55.2.2.2.2.1
theorem dX12_belief_60 : decode cX12_belief 60 = .ok (.iadd, 1) := eX12_belief_55.2.2.2.2.2.1
theorem dX12_belief_61 : decode cX12_belief 61 = .ok (.i2l, 1) := eX12_belief_55.2.2.2.2.2.2.1
theorem dX12_belief_62 : decode cX12_belief 62 = .ok (.lmul, 1) := eX12_belief_55.2.2.2.2.2.2.2.1
theorem eX12_belief_63 : decode cX12_belief 63 = .ok (.lstore_n 3, 1) ∧ decode cX12_belief 64 = .ok (.aload_n 0, 1) ∧ decode cX12_belief 65 = .ok (.getfield 349, 3) ∧ decode cX12_belief 68 = .ok (.aload_n 0, 1) ∧ decode cX12_belief 69 = .ok (.getfield 346, 3) ∧ decode cX12_belief 72 = .ok (.lsub, 1) ∧ decode cX12_belief 73 = .ok (.aload_n 0, 1) ∧ decode cX12_belief 74 = .ok (.getfield 35, 3) ∧ True := dkl_ok (c := cX12_belief) [(.lstore_n 3, 1), (.aload_n 0, 1), (.getfield 349, 3), (.aload_n 0, 1), (.getfield 346, 3), (.lsub, 1), (.aload_n 0, 1), (.getfield 35, 3)] 63 (by decide +kernel)
theorem dX12_belief_63 : decode cX12_belief 63 = .ok (.lstore_n 3, 1) := eX12_belief_63.1
theorem dX12_belief_64 : decode cX12_belief 64 = .ok (.aload_n 0, 1) := eX12_belief_63.2.1
theorem dX12_belief_65 : decode cX12_belief 65 = .ok (.getfield 349, 3) := eX12_belief_63.2.2.1
theorem dX12_belief_68 : decode cX12_belief 68 = .ok (.aload_n 0, 1) := eX12_belief_63.2.2.2.1
theorem dX12_belief_69 : decode cX12_belief 69 = .ok (.getfield 346, 3) := eX12_belief_63.2.2.2.2.1
theorem dX12_belief_72 : decode cX12_belief 72 = .ok (.lsub, 1) := eX12_belief_63.2.2.2.2.2.1
theorem dX12_belief_73 : decode cX12_belief 73 = .ok (.aload_n 0, 1) := eX12_belief_63.2.2.2.2.2.2.1
theorem dX12_belief_74 : decode cX12_belief 74 = .ok (.getfield 35, 3) := eX12_belief_63.2.2.2.2.2.2.2.1
theorem eX12_belief_77 : decode cX12_belief 77 = .ok (.bipush 28, 2) ∧ decode cX12_belief 79 = .ok (.iload_n 2, 1) ∧ decode cX12_belief 80 = .ok (.iadd, 1) ∧ decode cX12_belief 81 = .ok (.iaload, 1) ∧ decode cX12_belief 82 = .ok (.iconst 1, 1) ∧ decode cX12_belief 83 = .ok (.iadd, 1) ∧ decode cX12_belief 84 = .ok (.i2l, 1) ∧ decode cX12_belief 85 = .ok (.lmul, 1) ∧ True := dkl_ok (c := cX12_belief) [(.bipush 28, 2), (.iload_n 2, 1), (.iadd, 1), (.iaload, 1), (.iconst 1, 1), (.iadd, 1), (.i2l, 1), (.lmul, 1)] 77 (by decide +kernel)
theorem dX12_belief_77 : decode cX12_belief 77 = .ok (.bipush 28, 2) := eX12_belief_77.1
theorem dX12_belief_79 : decode cX12_belief 79 = .ok (.iload_n 2, 1) := eX12_belief_77.2.1
theorem dX12_belief_80 : decode cX12_belief 80 = .ok (.iadd, 1) := eX12_belief_77.2.2.1
theorem dX12_belief_81 : decode cX12_belief 81 = .ok (.iaload, 1) := eX12_belief_77.2.2.2.1
theorem dX12_belief_82 : decode cX12_belief 82 = .ok (.iconst 1, 1) := eX12_belief_77.2.2.2.2.1
theorem dX12_belief_83 : decode cX12_belief 83 = .ok (.iadd, 1) := eX12_belief_77.2.2.2.2.2.1
theorem dX12_belief_84 : decode cX12_belief 84 = .ok (.i2l, 1) := eX12_belief_77.2.2.2.2.2.2.1
theorem dX12_belief_85 : decode cX12_belief 85 = .ok (.lmul, 1) := eX12_belief_77.2.2.2.2.2.2.2.1
theorem eX12_belief_86 : decode cX12_belief 86 = .ok (.lstore 5, 2) ∧ decode cX12_belief 88 = .ok (.aload_n 0, 1) ∧ decode cX12_belief 89 = .ok (.lload_n 3, 1) ∧ decode cX12_belief 90 = .ok (.lload_n 3, 1) ∧ decode cX12_belief 91 = .ok (.lload 5, 2) ∧ decode cX12_belief 93 = .ok (.ladd, 1) ∧ decode cX12_belief 94 = .ok (.invokevirtual 361, 3) ∧ decode cX12_belief 97 = .ok (.ireturn, 1) ∧ True := dkl_ok (c := cX12_belief) [(.lstore 5, 2), (.aload_n 0, 1), (.lload_n 3, 1), (.lload_n 3, 1), (.lload 5, 2), (.ladd, 1), (.invokevirtual 361, 3), (.ireturn, 1)] 86 (by decide +kernel)
theorem dX12_belief_86 : decode cX12_belief 86 = .ok (.lstore 5, 2) := eX12_belief_86.1
theorem dX12_belief_88 : decode cX12_belief 88 = .ok (.aload_n 0, 1) := eX12_belief_86.2.1
theorem dX12_belief_89 : decode cX12_belief 89 = .ok (.lload_n 3, 1) := eX12_belief_86.2.2.1
theorem dX12_belief_90 : decode cX12_belief 90 = .ok (.lload_n 3, 1) := eX12_belief_86.2.2.2.1
theorem dX12_belief_91 : decode cX12_belief 91 = .ok (.lload 5, 2) := eX12_belief_86.2.2.2.2.1
theorem dX12_belief_93 : decode cX12_belief 93 = .ok (.ladd, 1) := eX12_belief_86.2.2.2.2.2.1
theorem dX12_belief_94 : decode cX12_belief 94 = .ok (.invokevirtual 361, 3) := eX12_belief_86.2.2.2.2.2.2.1
theorem dX12_belief_97 : decode cX12_belief 97 = .ok (.ireturn, 1) := eX12_belief_86.2.2.2.2.2.2.2.1
theorem eX12_worth_0 : decode cX12_worth 0 = .ok (.aload_n 0, 1) ∧ decode cX12_worth 1 = .ok (.iconst 0, 1) ∧ decode cX12_worth 2 = .ok (.putfield 59, 3) ∧ decode cX12_worth 5 = .ok (.aload_n 0, 1) ∧ decode cX12_worth 6 = .ok (.aload_n 0, 1) ∧ decode cX12_worth 7 = .ok (.iload_n 1, 1) ∧ decode cX12_worth 8 = .ok (.invokevirtual 352, 3) ∧ decode cX12_worth 11 = .ok (.putfield 62, 3) ∧ True := dkl_ok (c := cX12_worth) [(.aload_n 0, 1), (.iconst 0, 1), (.putfield 59, 3), (.aload_n 0, 1), (.aload_n 0, 1), (.iload_n 1, 1), (.invokevirtual 352, 3), (.putfield 62, 3)] 0 (by decide +kernel)
theorem dX12_worth_0 : decode cX12_worth 0 = .ok (.aload_n 0, 1) := eX12_worth_0.1
theorem dX12_worth_1 : decode cX12_worth 1 = .ok (.iconst 0, 1) := eX12_worth_0.2.1
theorem dX12_worth_2 : decode cX12_worth 2 = .ok (.putfield 59, 3) := eX12_worth_0.2.2.1
theorem dX12_worth_5 : decode cX12_worth 5 = .ok (.aload_n 0, 1) := eX12_worth_0.2.2.2.1
theorem dX12_worth_6 : decode cX12_worth 6 = .ok (.aload_n 0, 1) := eX12_worth_0.2.2.2.2.1
theorem dX12_worth_7 : decode cX12_worth 7 = .ok (.iload_n 1, 1) := eX12_worth_0.2.2.2.2.2.1
theorem dX12_worth_8 : decode cX12_worth 8 = .ok (.invokevirtual 352, 3) := eX12_worth_0.2.2.2.2.2.2.1
theorem dX12_worth_11 : decode cX12_worth 11 = .ok (.putfield 62, 3) := eX12_worth_0.2.2.2.2.2.2.2.1
theorem eX12_worth_14 : decode cX12_worth 14 = .ok (.aload_n 0, 1) ∧ decode cX12_worth 15 = .ok (.getfield 62, 3) ∧ decode cX12_worth 18 = .ok (.ifCond .le 5, 3) ∧ decode cX12_worth 21 = .ok (.iconst 0, 1) ∧ decode cX12_worth 22 = .ok (.ireturn, 1) ∧ decode cX12_worth 23 = .ok (.aload_n 0, 1) ∧ decode cX12_worth 24 = .ok (.iload_n 1, 1) ∧ decode cX12_worth 25 = .ok (.invokevirtual 358, 3) ∧ True := dkl_ok (c := cX12_worth) [(.aload_n 0, 1), (.getfield 62, 3), (.ifCond .le 5, 3), (.iconst 0, 1), (.ireturn, 1), (.aload_n 0, 1), (.iload_n 1, 1), (.invokevirtual 358, 3)] 14 (by decide +kernel)
theorem dX12_worth_14 : decode cX12_worth 14 = .ok (.aload_n 0, 1) := eX12_worth_14.1
theorem dX12_worth_15 : decode cX12_worth 15 = .ok (.getfield 62, 3) := eX12_worth_14.2.1
theorem dX12_worth_18 : decode cX12_worth 18 = .ok (.ifCond .le 5, 3) := eX12_worth_14.2.2.1
theorem dX12_worth_21 : decode cX12_worth 21 = .ok (.iconst 0, 1) := eX12_worth_14.2.2.2.1
theorem dX12_worth_22 : decode cX12_worth 22 = .ok (.ireturn, 1) := eX12_worth_14.2.2.2.2.1
theorem dX12_worth_23 : decode cX12_worth 23 = .ok (.aload_n 0, 1) := eX12_worth_14.2.2.2.2.2.1
theorem dX12_worth_24 : decode cX12_worth 24 = .ok (.iload_n 1, 1) := eX12_worth_14.2.2.2.2.2.2.1
theorem dX12_worth_25 : decode cX12_worth 25 = .ok (.invokevirtual 358, 3) := eX12_worth_14.2.2.2.2.2.2.2.1
theorem eX12_worth_28 : decode cX12_worth 28 = .ok (.aload_n 0, 1) ∧ decode cX12_worth 29 = .ok (.aload_n 0, 1) ∧ decode cX12_worth 30 = .ok (.invokevirtual 287, 3) ∧ decode cX12_worth 33 = .ok (.i2l, 1) ∧ decode cX12_worth 34 = .ok (.aload_n 0, 1) ∧ decode cX12_worth 35 = .ok (.getfield 349, 3) ∧ decode cX12_worth 38 = .ok (.ldc2_w 365, 3) ∧ decode cX12_worth 41 = .ok (.aload_n 0, 1) ∧ True := dkl_ok (c := cX12_worth) [(.aload_n 0, 1), (.aload_n 0, 1), (.invokevirtual 287, 3), (.i2l, 1), (.aload_n 0, 1), (.getfield 349, 3), (.ldc2_w 365, 3), (.aload_n 0, 1)] 28 (by decide +kernel)
theorem dX12_worth_28 : decode cX12_worth 28 = .ok (.aload_n 0, 1) := eX12_worth_28.1
theorem dX12_worth_29 : decode cX12_worth 29 = .ok (.aload_n 0, 1) := eX12_worth_28.2.1
theorem dX12_worth_30 : decode cX12_worth 30 = .ok (.invokevirtual 287, 3) := eX12_worth_28.2.2.1
theorem dX12_worth_33 : decode cX12_worth 33 = .ok (.i2l, 1) := eX12_worth_28.2.2.2.1
theorem dX12_worth_34 : decode cX12_worth 34 = .ok (.aload_n 0, 1) := eX12_worth_28.2.2.2.2.1
theorem dX12_worth_35 : decode cX12_worth 35 = .ok (.getfield 349, 3) := eX12_worth_28.2.2.2.2.2.1
theorem dX12_worth_38 : decode cX12_worth 38 = .ok (.ldc2_w 365, 3) := eX12_worth_28.2.2.2.2.2.2.1
theorem dX12_worth_41 : decode cX12_worth 41 = .ok (.aload_n 0, 1) := eX12_worth_28.2.2.2.2.2.2.2.1
theorem eX12_worth_42 : decode cX12_worth 42 = .ok (.getfield 346, 3) ∧ decode cX12_worth 45 = .ok (.lmul, 1) ∧ decode cX12_worth 46 = .ok (.lsub, 1) ∧ decode cX12_worth 47 = .ok (.lmul, 1) ∧ decode cX12_worth 48 = .ok (.aload_n 0, 1) ∧ decode cX12_worth 49 = .ok (.getfield 349, 3) ∧ decode cX12_worth 52 = .ok (.invokevirtual 361, 3) ∧ decode cX12_worth 55 = .ok (.ireturn, 1) ∧ True := dkl_ok (c := cX12_worth) [(.getfield 346, 3), (.lmul, 1), (.lsub, 1), (.lmul, 1), (.aload_n 0, 1), (.getfield 349, 3), (.invokevirtual 361, 3), (.ireturn, 1)] 42 (by decide +kernel)
theorem dX12_worth_42 : decode cX12_worth 42 = .ok (.getfield 346, 3) := eX12_worth_42.1
theorem dX12_worth_45 : decode cX12_worth 45 = .ok (.lmul, 1) := eX12_worth_42.2.1
theorem dX12_worth_46 : decode cX12_worth 46 = .ok (.lsub, 1) := eX12_worth_42.2.2.1
theorem dX12_worth_47 : decode cX12_worth 47 = .ok (.lmul, 1) := eX12_worth_42.2.2.2.1
theorem dX12_worth_48 : decode cX12_worth 48 = .ok (.aload_n 0, 1) := eX12_worth_42.2.2.2.2.1
theorem dX12_worth_49 : decode cX12_worth 49 = .ok (.getfield 349, 3) := eX12_worth_42.2.2.2.2.2.1
theorem dX12_worth_52 : decode cX12_worth 52 = .ok (.invokevirtual 361, 3) := eX12_worth_42.2.2.2.2.2.2.1
theorem dX12_worth_55 : decode cX12_worth 55 = .ok (.ireturn, 1) := eX12_worth_42.2.2.2.2.2.2.2.1
theorem eX12_ready_0 : decode cX12_ready 0 = .ok (.aload_n 0, 1) ∧ decode cX12_ready 1 = .ok (.iconst 0, 1) ∧ decode cX12_ready 2 = .ok (.putfield 59, 3) ∧ decode cX12_ready 5 = .ok (.aload_n 0, 1) ∧ decode cX12_ready 6 = .ok (.iconst 0, 1) ∧ decode cX12_ready 7 = .ok (.putfield 62, 3) ∧ decode cX12_ready 10 = .ok (.aload_n 0, 1) ∧ decode cX12_ready 11 = .ok (.getfield 35, 3) ∧ True := dkl_ok (c := cX12_ready) [(.aload_n 0, 1), (.iconst 0, 1), (.putfield 59, 3), (.aload_n 0, 1), (.iconst 0, 1), (.putfield 62, 3), (.aload_n 0, 1), (.getfield 35, 3)] 0 (by decide +kernel)
theorem dX12_ready_0 : decode cX12_ready 0 = .ok (.aload_n 0, 1) := eX12_ready_0.1
theorem dX12_ready_1 : decode cX12_ready 1 = .ok (.iconst 0, 1) := eX12_ready_0.2.1
theorem dX12_ready_2 : decode cX12_ready 2 = .ok (.putfield 59, 3) := eX12_ready_0.2.2.1
theorem dX12_ready_5 : decode cX12_ready 5 = .ok (.aload_n 0, 1) := eX12_ready_0.2.2.2.1
theorem dX12_ready_6 : decode cX12_ready 6 = .ok (.iconst 0, 1) := eX12_ready_0.2.2.2.2.1
theorem dX12_ready_7 : decode cX12_ready 7 = .ok (.putfield 62, 3) := eX12_ready_0.2.2.2.2.2.1
theorem dX12_ready_10 : decode cX12_ready 10 = .ok (.aload_n 0, 1) := eX12_ready_0.2.2.2.2.2.2.1
theorem dX12_ready_11 : decode cX12_ready 11 = .ok (.getfield 35, 3) := eX12_ready_0.2.2.2.2.2.2.2.1
theorem eX12_ready_14 : decode cX12_ready 14 = .ok (.bipush 7, 2) ∧ decode cX12_ready 16 = .ok (.iaload, 1) ∧ decode cX12_ready 17 = .ok (.ifCond .eq 13, 3) ∧ decode cX12_ready 20 = .ok (.aload_n 0, 1) ∧ decode cX12_ready 21 = .ok (.getfield 35, 3) ∧ decode cX12_ready 24 = .ok (.iconst 2, 1) ∧ decode cX12_ready 25 = .ok (.iaload, 1) ∧ decode cX12_ready 26 = .ok (.iconst 2, 1) ∧ True := dkl_ok (c := cX12_ready) [(.bipush 7, 2), (.iaload, 1), (.ifCond .eq 13, 3), (.aload_n 0, 1), (.getfield 35, 3), (.iconst 2, 1), (.iaload, 1), (.iconst 2, 1)] 14 (by decide +kernel)
theorem dX12_ready_14 : decode cX12_ready 14 = .ok (.bipush 7, 2) := eX12_ready_14.1
theorem dX12_ready_16 : decode cX12_ready 16 = .ok (.iaload, 1) := eX12_ready_14.2.1
theorem dX12_ready_17 : decode cX12_ready 17 = .ok (.ifCond .eq 13, 3) := eX12_ready_14.2.2.1
theorem dX12_ready_20 : decode cX12_ready 20 = .ok (.aload_n 0, 1) := eX12_ready_14.2.2.2.1
theorem dX12_ready_21 : decode cX12_ready 21 = .ok (.getfield 35, 3) := eX12_ready_14.2.2.2.2.1
theorem dX12_ready_24 : decode cX12_ready 24 = .ok (.iconst 2, 1) := eX12_ready_14.2.2.2.2.2.1
theorem dX12_ready_25 : decode cX12_ready 25 = .ok (.iaload, 1) := eX12_ready_14.2.2.2.2.2.2.1
theorem dX12_ready_26 : decode cX12_ready 26 = .ok (.iconst 2, 1) := eX12_ready_14.2.2.2.2.2.2.2.1
theorem eX12_ready_27 : decode cX12_ready 27 = .ok (.if_icmp .ge 10, 3) ∧ decode cX12_ready 30 = .ok (.aload_n 0, 1) ∧ decode cX12_ready 31 = .ok (.bipush 8, 2) ∧ decode cX12_ready 33 = .ok (.invokevirtual 284, 3) ∧ decode cX12_ready 36 = .ok (.ireturn, 1) ∧ decode cX12_ready 37 = .ok (.iconst (-1), 1) ∧ decode cX12_ready 38 = .ok (.istore_n 1, 1) ∧ decode cX12_ready 39 = .ok (.lconst 0, 1) ∧ True := dkl_ok (c := cX12_ready) [(.if_icmp .ge 10, 3), (.aload_n 0, 1), (.bipush 8, 2), (.invokevirtual 284, 3), (.ireturn, 1), (.iconst (-1), 1), (.istore_n 1, 1), (.lconst 0, 1)] 27 (by decide +kernel)
theorem dX12_ready_27 : decode cX12_ready 27 = .ok (.if_icmp .ge 10, 3) := eX12_ready_27.1
theorem dX12_ready_30 : decode cX12_ready 30 = .ok (.aload_n 0, 1) := eX12_ready_27.2.1
theorem dX12_ready_31 : decode cX12_ready 31 = .ok (.bipush 8, 2) := eX12_ready_27.2.2.1
theorem dX12_ready_33 : decode cX12_ready 33 = .ok (.invokevirtual 284, 3) := eX12_ready_27.2.2.2.1
theorem dX12_ready_36 : decode cX12_ready 36 = .ok (.ireturn, 1) := eX12_ready_27.2.2.2.2.1
theorem dX12_ready_37 : decode cX12_ready 37 = .ok (.iconst (-1), 1) := eX12_ready_27.2.2.2.2.2.1
theorem dX12_ready_38 : decode cX12_ready 38 = .ok (.istore_n 1, 1) := eX12_ready_27.2.2.2.2.2.2.1
theorem dX12_ready_39 : decode cX12_ready 39 = .ok (.lconst 0, 1) := eX12_ready_27.2.2.2.2.2.2.2.1
theorem eX12_ready_40 : decode cX12_ready 40 = .ok (.lstore_n 2, 1) ∧ decode cX12_ready 41 = .ok (.lconst 1, 1) ∧ decode cX12_ready 42 = .ok (.lstore 4, 2) ∧ decode cX12_ready 44 = .ok (.aload_n 0, 1) ∧ decode cX12_ready 45 = .ok (.aload_n 0, 1) ∧ decode cX12_ready 46 = .ok (.getfield 35, 3) ∧ decode cX12_ready 49 = .ok (.bipush 6, 2) ∧ decode cX12_ready 51 = .ok (.iaload, 1) ∧ True := dkl_ok (c := cX12_ready) [(.lstore_n 2, 1), (.lconst 1, 1), (.lstore 4, 2), (.aload_n 0, 1), (.aload_n 0, 1), (.getfield 35, 3), (.bipush 6, 2), (.iaload, 1)] 40 (by decide +kernel)
theorem dX12_ready_40 : decode cX12_ready 40 = .ok (.lstore_n 2, 1) := eX12_ready_40.1
theorem dX12_ready_41 : decode cX12_ready 41 = .ok (.lconst 1, 1) := eX12_ready_40.2.1
theorem dX12_ready_42 : decode cX12_ready 42 = .ok (.lstore 4, 2) := eX12_ready_40.2.2.1
theorem dX12_ready_44 : decode cX12_ready 44 = .ok (.aload_n 0, 1) := eX12_ready_40.2.2.2.1
theorem dX12_ready_45 : decode cX12_ready 45 = .ok (.aload_n 0, 1) := eX12_ready_40.2.2.2.2.1
theorem dX12_ready_46 : decode cX12_ready 46 = .ok (.getfield 35, 3) := eX12_ready_40.2.2.2.2.2.1
theorem dX12_ready_49 : decode cX12_ready 49 = .ok (.bipush 6, 2) := eX12_ready_40.2.2.2.2.2.2.1
theorem dX12_ready_51 : decode cX12_ready 51 = .ok (.iaload, 1) := eX12_ready_40.2.2.2.2.2.2.2.1
theorem eX12_ready_52 : decode cX12_ready 52 = .ok (.invokevirtual 319, 3) ∧ decode cX12_ready 55 = .ok (.istore 6, 2) ∧ decode cX12_ready 57 = .ok (.iload 6, 2) ∧ decode cX12_ready 59 = .ok (.aload_n 0, 1) ∧ decode cX12_ready 60 = .ok (.getfield 35, 3) ∧ decode cX12_ready 63 = .ok (.bipush 6, 2) ∧ decode cX12_ready 65 = .ok (.iaload, 1) ∧ decode cX12_ready 66 = .ok (.if_icmp .eq 69, 3) ∧ True := dkl_ok (c := cX12_ready) [(.invokevirtual 319, 3), (.istore 6, 2), (.iload 6, 2), (.aload_n 0, 1), (.getfield 35, 3), (.bipush 6, 2), (.iaload, 1), (.if_icmp .eq 69, 3)] 52 (by decide +kernel)
theorem dX12_ready_52 : decode cX12_ready 52 = .ok (.invokevirtual 319, 3) := eX12_ready_52.1
theorem dX12_ready_55 : decode cX12_ready 55 = .ok (.istore 6, 2) := eX12_ready_52.2.1
theorem dX12_ready_57 : decode cX12_ready 57 = .ok (.iload 6, 2) := eX12_ready_52.2.2.1
theorem dX12_ready_59 : decode cX12_ready 59 = .ok (.aload_n 0, 1) := eX12_ready_52.2.2.2.1
theorem dX12_ready_60 : decode cX12_ready 60 = .ok (.getfield 35, 3) := eX12_ready_52.2.2.2.2.1
theorem dX12_ready_63 : decode cX12_ready 63 = .ok (.bipush 6, 2) := eX12_ready_52.2.2.2.2.2.1
theorem dX12_ready_65 : decode cX12_ready 65 = .ok (.iaload, 1) := eX12_ready_52.2.2.2.2.2.2.1
theorem dX12_ready_66 : decode cX12_ready 66 = .ok (.if_icmp .eq 69, 3) := eX12_ready_52.2.2.2.2.2.2.2.1
theorem eX12_ready_69 : decode cX12_ready 69 = .ok (.aload_n 0, 1) ∧ decode cX12_ready 70 = .ok (.iload 6, 2) ∧ decode cX12_ready 72 = .ok (.invokevirtual 358, 3) ∧ decode cX12_ready 75 = .ok (.aload_n 0, 1) ∧ decode cX12_ready 76 = .ok (.getfield 349, 3) ∧ decode cX12_ready 79 = .ok (.ldc2_w 365, 3) ∧ decode cX12_ready 82 = .ok (.aload_n 0, 1) ∧ decode cX12_ready 83 = .ok (.getfield 346, 3) ∧ True := dkl_ok (c := cX12_ready) [(.aload_n 0, 1), (.iload 6, 2), (.invokevirtual 358, 3), (.aload_n 0, 1), (.getfield 349, 3), (.ldc2_w 365, 3), (.aload_n 0, 1), (.getfield 346, 3)] 69 (by decide +kernel)
theorem dX12_ready_69 : decode cX12_ready 69 = .ok (.aload_n 0, 1) := eX12_ready_69.1
theorem dX12_ready_70 : decode cX12_ready 70 = .ok (.iload 6, 2) := eX12_ready_69.2.1
theorem dX12_ready_72 : decode cX12_ready 72 = .ok (.invokevirtual 358, 3) := eX12_ready_69.2.2.1
theorem dX12_ready_75 : decode cX12_ready 75 = .ok (.aload_n 0, 1) := eX12_ready_69.2.2.2.1
theorem dX12_ready_76 : decode cX12_ready 76 = .ok (.getfield 349, 3) := eX12_ready_69.2.2.2.2.1
theorem dX12_ready_79 : decode cX12_ready 79 = .ok (.ldc2_w 365, 3) := eX12_ready_69.2.2.2.2.2.1
theorem dX12_ready_82 : decode cX12_ready 82 = .ok (.aload_n 0, 1) := eX12_ready_69.2.2.2.2.2.2.1
theorem dX12_ready_83 : decode cX12_ready 83 = .ok (.getfield 346, 3) := eX12_ready_69.2.2.2.2.2.2.2.1
theorem eX12_ready_86 : decode cX12_ready 86 = .ok (.lmul, 1) ∧ decode cX12_ready 87 = .ok (.lsub, 1) ∧ decode cX12_ready 88 = .ok (.lstore 7, 2) ∧ decode cX12_ready 90 = .ok (.iload_n 1, 1) ∧ decode cX12_ready 91 = .ok (.ifCond .lt 21, 3) ∧ decode cX12_ready 94 = .ok (.lload 7, 2) ∧ decode cX12_ready 96 = .ok (.lload 4, 2) ∧ decode cX12_ready 98 = .ok (.lmul, 1) ∧ True := dkl_ok (c := cX12_ready) [(.lmul, 1), (.lsub, 1), (.lstore 7, 2), (.iload_n 1, 1), (.ifCond .lt 21, 3), (.lload 7, 2), (.lload 4, 2), (.lmul, 1)] 86 (by decide +kernel)
theorem dX12_ready_86 : decode cX12_ready 86 = .ok (.lmul, 1) := eX12_ready_86.1
theorem dX12_ready_87 : decode cX12_ready 87 = .ok (.lsub, 1) := eX12_ready_86.2.1
theorem dX12_ready_88 : decode cX12_ready 88 = .ok (.lstore 7, 2) := eX12_ready_86.2.2.1
theorem dX12_ready_90 : decode cX12_ready 90 = .ok (.iload_n 1, 1) := eX12_ready_86.2.2.2.1
theorem dX12_ready_91 : decode cX12_ready 91 = .ok (.ifCond .lt 21, 3) := eX12_ready_86.2.2.2.2.1
theorem dX12_ready_94 : decode cX12_ready 94 = .ok (.lload 7, 2) := eX12_ready_86.2.2.2.2.2.1
theorem dX12_ready_96 : decode cX12_ready 96 = .ok (.lload 4, 2) := eX12_ready_86.2.2.2.2.2.2.1
theorem dX12_ready_98 : decode cX12_ready 98 = .ok (.lmul, 1) := eX12_ready_86.2.2.2.2.2.2.2.1
theorem eX12_ready_99 : decode cX12_ready 99 = .ok (.lload_n 2, 1) ∧ decode cX12_ready 100 = .ok (.aload_n 0, 1) ∧ decode cX12_ready 101 = .ok (.getfield 349, 3) ∧ decode cX12_ready 104 = .ok (.lmul, 1) ∧ decode cX12_ready 105 = .ok (.lcmp, 1) ∧ decode cX12_ready 106 = .ok (.ifCond .gt 6, 3) ∧ decode cX12_ready 109 = .ok (.goto 15, 3) ∧ decode cX12_ready 112 = .ok (.iload 6, 2) ∧ True := dkl_ok (c := cX12_ready) [(.lload_n 2, 1), (.aload_n 0, 1), (.getfield 349, 3), (.lmul, 1), (.lcmp, 1), (.ifCond .gt 6, 3), (.goto 15, 3), (.iload 6, 2)] 99 (by decide +kernel)
theorem dX12_ready_99 : decode cX12_ready 99 = .ok (.lload_n 2, 1) := eX12_ready_99.1
theorem dX12_ready_100 : decode cX12_ready 100 = .ok (.aload_n 0, 1) := eX12_ready_99.2.1
theorem dX12_ready_101 : decode cX12_ready 101 = .ok (.getfield 349, 3) := eX12_ready_99.2.2.1
theorem dX12_ready_104 : decode cX12_ready 104 = .ok (.lmul, 1) := eX12_ready_99.2.2.2.1
theorem dX12_ready_105 : decode cX12_ready 105 = .ok (.lcmp, 1) := eX12_ready_99.2.2.2.2.1
theorem dX12_ready_106 : decode cX12_ready 106 = .ok (.ifCond .gt 6, 3) := eX12_ready_99.2.2.2.2.2.1
theorem dX12_ready_109 : decode cX12_ready 109 = .ok (.goto 15, 3) := eX12_ready_99.2.2.2.2.2.2.1
theorem dX12_ready_112 : decode cX12_ready 112 = .ok (.iload 6, 2) := eX12_ready_99.2.2.2.2.2.2.2.1
theorem eX12_ready_114 : decode cX12_ready 114 = .ok (.istore_n 1, 1) ∧ decode cX12_ready 115 = .ok (.lload 7, 2) ∧ decode cX12_ready 117 = .ok (.lstore_n 2, 1) ∧ decode cX12_ready 118 = .ok (.aload_n 0, 1) ∧ decode cX12_ready 119 = .ok (.getfield 349, 3) ∧ decode cX12_ready 122 = .ok (.lstore 4, 2) ∧ decode cX12_ready 124 = .ok (.aload_n 0, 1) ∧ decode cX12_ready 125 = .ok (.iload 6, 2) ∧ True := dkl_ok (c := cX12_ready) [(.istore_n 1, 1), (.lload 7, 2), (.lstore_n 2, 1), (.aload_n 0, 1), (.getfield 349, 3), (.lstore 4, 2), (.aload_n 0, 1), (.iload 6, 2)] 114 (by decide +kernel)
theorem dX12_ready_114 : decode cX12_ready 114 = .ok (.istore_n 1, 1) := eX12_ready_114.1
theorem dX12_ready_115 : decode cX12_ready 115 = .ok (.lload 7, 2) := eX12_ready_114.2.1
theorem dX12_ready_117 : decode cX12_ready 117 = .ok (.lstore_n 2, 1) := eX12_ready_114.2.2.1
theorem dX12_ready_118 : decode cX12_ready 118 = .ok (.aload_n 0, 1) := eX12_ready_114.2.2.2.1
theorem dX12_ready_119 : decode cX12_ready 119 = .ok (.getfield 349, 3) := eX12_ready_114.2.2.2.2.1
theorem dX12_ready_122 : decode cX12_ready 122 = .ok (.lstore 4, 2) := eX12_ready_114.2.2.2.2.2.1
theorem dX12_ready_124 : decode cX12_ready 124 = .ok (.aload_n 0, 1) := eX12_ready_114.2.2.2.2.2.2.1
theorem dX12_ready_125 : decode cX12_ready 125 = .ok (.iload 6, 2) := eX12_ready_114.2.2.2.2.2.2.2.1
theorem eX12_ready_127 : decode cX12_ready 127 = .ok (.invokevirtual 319, 3) ∧ decode cX12_ready 130 = .ok (.istore 6, 2) ∧ decode cX12_ready 132 = .ok (.goto (-75), 3) ∧ decode cX12_ready 135 = .ok (.iload_n 1, 1) ∧ decode cX12_ready 136 = .ok (.ireturn, 1) ∧ True := dkl_ok (c := cX12_ready) [(.invokevirtual 319, 3), (.istore 6, 2), (.goto (-75), 3), (.iload_n 1, 1), (.ireturn, 1)] 127 (by decide +kernel)
theorem dX12_ready_127 : decode cX12_ready 127 = .ok (.invokevirtual 319, 3) := eX12_ready_127.1
theorem dX12_ready_130 : decode cX12_ready 130 = .ok (.istore 6, 2) := eX12_ready_127.2.1
theorem dX12_ready_132 : decode cX12_ready 132 = .ok (.goto (-75), 3) := eX12_ready_127.2.2.1
theorem dX12_ready_135 : decode cX12_ready 135 = .ok (.iload_n 1, 1) := eX12_ready_127.2.2.2.1
theorem dX12_ready_136 : decode cX12_ready 136 = .ok (.ireturn, 1) := eX12_ready_127.2.2.2.2.1
theorem eX12_heap_0 : decode cX12_heap 0 = .ok (.aload_n 0, 1) ∧ decode cX12_heap 1 = .ok (.iconst 0, 1) ∧ decode cX12_heap 2 = .ok (.putfield 59, 3) ∧ decode cX12_heap 5 = .ok (.aload_n 0, 1) ∧ decode cX12_heap 6 = .ok (.iconst 0, 1) ∧ decode cX12_heap 7 = .ok (.putfield 62, 3) ∧ decode cX12_heap 10 = .ok (.aload_n 0, 1) ∧ decode cX12_heap 11 = .ok (.iload_n 1, 1) ∧ True := dkl_ok (c := cX12_heap) [(.aload_n 0, 1), (.iconst 0, 1), (.putfield 59, 3), (.aload_n 0, 1), (.iconst 0, 1), (.putfield 62, 3), (.aload_n 0, 1), (.iload_n 1, 1)] 0 (by decide +kernel)
theorem dX12_heap_0 : decode cX12_heap 0 = .ok (.aload_n 0, 1) := eX12_heap_0.1
theorem dX12_heap_1 : decode cX12_heap 1 = .ok (.iconst 0, 1) := eX12_heap_0.2.1
theorem dX12_heap_2 : decode cX12_heap 2 = .ok (.putfield 59, 3) := eX12_heap_0.2.2.1
theorem dX12_heap_5 : decode cX12_heap 5 = .ok (.aload_n 0, 1) := eX12_heap_0.2.2.2.1
theorem dX12_heap_6 : decode cX12_heap 6 = .ok (.iconst 0, 1) := eX12_heap_0.2.2.2.2.1
theorem dX12_heap_7 : decode cX12_heap 7 = .ok (.putfield 62, 3) := eX12_heap_0.2.2.2.2.2.1
theorem dX12_heap_10 : decode cX12_heap 10 = .ok (.aload_n 0, 1) := eX12_heap_0.2.2.2.2.2.2.1
theorem dX12_heap_11 : decode cX12_heap 11 = .ok (.iload_n 1, 1) := eX12_heap_0.2.2.2.2.2.2.2.1
theorem eX12_heap_12 : decode cX12_heap 12 = .ok (.invokevirtual 290, 3) ∧ decode cX12_heap 15 = .ok (.ifCond .eq 11, 3) ∧ decode cX12_heap 18 = .ok (.aload_n 0, 1) ∧ decode cX12_heap 19 = .ok (.iload_n 2, 1) ∧ decode cX12_heap 20 = .ok (.invokevirtual 299, 3) ∧ decode cX12_heap 23 = .ok (.ifCond .ne 9, 3) ∧ decode cX12_heap 26 = .ok (.aload_n 0, 1) ∧ decode cX12_heap 27 = .ok (.iconst 2, 1) ∧ True := dkl_ok (c := cX12_heap) [(.invokevirtual 290, 3), (.ifCond .eq 11, 3), (.aload_n 0, 1), (.iload_n 2, 1), (.invokevirtual 299, 3), (.ifCond .ne 9, 3), (.aload_n 0, 1), (.iconst 2, 1)] 12 (by decide +kernel)
theorem dX12_heap_12 : decode cX12_heap 12 = .ok (.invokevirtual 290, 3) := eX12_heap_12.1
theorem dX12_heap_15 : decode cX12_heap 15 = .ok (.ifCond .eq 11, 3) := eX12_heap_12.2.1
theorem dX12_heap_18 : decode cX12_heap 18 = .ok (.aload_n 0, 1) := eX12_heap_12.2.2.1
theorem dX12_heap_19 : decode cX12_heap 19 = .ok (.iload_n 2, 1) := eX12_heap_12.2.2.2.1
theorem dX12_heap_20 : decode cX12_heap 20 = .ok (.invokevirtual 299, 3) := eX12_heap_12.2.2.2.2.1
theorem dX12_heap_23 : decode cX12_heap 23 = .ok (.ifCond .ne 9, 3) := eX12_heap_12.2.2.2.2.2.1
theorem dX12_heap_26 : decode cX12_heap 26 = .ok (.aload_n 0, 1) := eX12_heap_12.2.2.2.2.2.2.1
theorem dX12_heap_27 : decode cX12_heap 27 = .ok (.iconst 2, 1) := eX12_heap_12.2.2.2.2.2.2.2.1
theorem eX12_heap_28 : decode cX12_heap 28 = .ok (.invokevirtual 74, 3) ∧ decode cX12_heap 31 = .ok (.ireturn, 1) ∧ decode cX12_heap 32 = .ok (.aload_n 0, 1) ∧ decode cX12_heap 33 = .ok (.iload_n 1, 1) ∧ decode cX12_heap 34 = .ok (.iload_n 2, 1) ∧ decode cX12_heap 35 = .ok (.invokevirtual 296, 3) ∧ decode cX12_heap 38 = .ok (.i2l, 1) ∧ decode cX12_heap 39 = .ok (.lstore_n 3, 1) ∧ True := dkl_ok (c := cX12_heap) [(.invokevirtual 74, 3), (.ireturn, 1), (.aload_n 0, 1), (.iload_n 1, 1), (.iload_n 2, 1), (.invokevirtual 296, 3), (.i2l, 1), (.lstore_n 3, 1)] 28 (by decide +kernel)
theorem dX12_heap_28 : decode cX12_heap 28 = .ok (.invokevirtual 74, 3) := eX12_heap_28.1
theorem dX12_heap_31 : decode cX12_heap 31 = .ok (.ireturn, 1) := eX12_heap_28.2.1
theorem dX12_heap_32 : decode cX12_heap 32 = .ok (.aload_n 0, 1) := eX12_heap_28.2.2.1
theorem dX12_heap_33 : decode cX12_heap 33 = .ok (.iload_n 1, 1) := eX12_heap_28.2.2.2.1
theorem dX12_heap_34 : decode cX12_heap 34 = .ok (.iload_n 2, 1) := eX12_heap_28.2.2.2.2.1
theorem dX12_heap_35 : decode cX12_heap 35 = .ok (.invokevirtual 296, 3) := eX12_heap_28.2.2.2.2.2.1
theorem dX12_heap_38 : decode cX12_heap 38 = .ok (.i2l, 1) := eX12_heap_28.2.2.2.2.2.2.1
theorem dX12_heap_39 : decode cX12_heap 39 = .ok (.lstore_n 3, 1) := eX12_heap_28.2.2.2.2.2.2.2.1
theorem eX12_heap_40 : decode cX12_heap 40 = .ok (.aload_n 0, 1) ∧ decode cX12_heap 41 = .ok (.invokevirtual 287, 3) ∧ decode cX12_heap 44 = .ok (.aload_n 0, 1) ∧ decode cX12_heap 45 = .ok (.iload_n 1, 1) ∧ decode cX12_heap 46 = .ok (.iconst (-1), 1) ∧ decode cX12_heap 47 = .ok (.invokevirtual 296, 3) ∧ decode cX12_heap 50 = .ok (.isub, 1) ∧ decode cX12_heap 51 = .ok (.i2l, 1) ∧ True := dkl_ok (c := cX12_heap) [(.aload_n 0, 1), (.invokevirtual 287, 3), (.aload_n 0, 1), (.iload_n 1, 1), (.iconst (-1), 1), (.invokevirtual 296, 3), (.isub, 1), (.i2l, 1)] 40 (by decide +kernel)
theorem dX12_heap_40 : decode cX12_heap 40 = .ok (.aload_n 0, 1) := eX12_heap_40.1
theorem dX12_heap_41 : decode cX12_heap 41 = .ok (.invokevirtual 287, 3) := eX12_heap_40.2.1
theorem dX12_heap_44 : decode cX12_heap 44 = .ok (.aload_n 0, 1) := eX12_heap_40.2.2.1
theorem dX12_heap_45 : decode cX12_heap 45 = .ok (.iload_n 1, 1) := eX12_heap_40.2.2.2.1
theorem dX12_heap_46 : decode cX12_heap 46 = .ok (.iconst (-1), 1) := eX12_heap_40.2.2.2.2.1
theorem dX12_heap_47 : decode cX12_heap 47 = .ok (.invokevirtual 296, 3) := eX12_heap_40.2.2.2.2.2.1
theorem dX12_heap_50 : decode cX12_heap 50 = .ok (.isub, 1) := eX12_heap_40.2.2.2.2.2.2.1
theorem dX12_heap_51 : decode cX12_heap 51 = .ok (.i2l, 1) := eX12_heap_40.2.2.2.2.2.2.2.1
theorem eX12_heap_52 : decode cX12_heap 52 = .ok (.lstore 5, 2) ∧ decode cX12_heap 54 = .ok (.aload_n 0, 1) ∧ decode cX12_heap 55 = .ok (.iload_n 1, 1) ∧ decode cX12_heap 56 = .ok (.invokevirtual 339, 3) ∧ decode cX12_heap 59 = .ok (.i2l, 1) ∧ decode cX12_heap 60 = .ok (.lstore 7, 2) ∧ decode cX12_heap 62 = .ok (.lload 7, 2) ∧ decode cX12_heap 64 = .ok (.lconst 0, 1) ∧ True := dkl_ok (c := cX12_heap) [(.lstore 5, 2), (.aload_n 0, 1), (.iload_n 1, 1), (.invokevirtual 339, 3), (.i2l, 1), (.lstore 7, 2), (.lload 7, 2), (.lconst 0, 1)] 52 (by decide +kernel)
theorem dX12_heap_52 : decode cX12_heap 52 = .ok (.lstore 5, 2) := eX12_heap_52.1
theorem dX12_heap_54 : decode cX12_heap 54 = .ok (.aload_n 0, 1) := eX12_heap_52.2.1
theorem dX12_heap_55 : decode cX12_heap 55 = .ok (.iload_n 1, 1) := eX12_heap_52.2.2.1
theorem dX12_heap_56 : decode cX12_heap 56 = .ok (.invokevirtual 339, 3) := eX12_heap_52.2.2.2.1
theorem dX12_heap_59 : decode cX12_heap 59 = .ok (.i2l, 1) := eX12_heap_52.2.2.2.2.1
theorem dX12_heap_60 : decode cX12_heap 60 = .ok (.lstore 7, 2) := eX12_heap_52.2.2.2.2.2.1
theorem dX12_heap_62 : decode cX12_heap 62 = .ok (.lload 7, 2) := eX12_heap_52.2.2.2.2.2.2.1
theorem dX12_heap_64 : decode cX12_heap 64 = .ok (.lconst 0, 1) := eX12_heap_52.2.2.2.2.2.2.2.1
theorem eX12_heap_65 : decode cX12_heap 65 = .ok (.lcmp, 1) ∧ decode cX12_heap 66 = .ok (.ifCond .ne 10, 3) ∧ decode cX12_heap 69 = .ok (.aload_n 0, 1) ∧ decode cX12_heap 70 = .ok (.lload_n 3, 1) ∧ decode cX12_heap 71 = .ok (.lconst 1, 1) ∧ decode cX12_heap 72 = .ok (.invokevirtual 361, 3) ∧ decode cX12_heap 75 = .ok (.ireturn, 1) ∧ decode cX12_heap 76 = .ok (.aload_n 0, 1) ∧ True := dkl_ok (c := cX12_heap) [(.lcmp, 1), (.ifCond .ne 10, 3), (.aload_n 0, 1), (.lload_n 3, 1), (.lconst 1, 1), (.invokevirtual 361, 3), (.ireturn, 1), (.aload_n 0, 1)] 65 (by decide +kernel)
theorem dX12_heap_65 : decode cX12_heap 65 = .ok (.lcmp, 1) := eX12_heap_65.1
theorem dX12_heap_66 : decode cX12_heap 66 = .ok (.ifCond .ne 10, 3) := eX12_heap_65.2.1
theorem dX12_heap_69 : decode cX12_heap 69 = .ok (.aload_n 0, 1) := eX12_heap_65.2.2.1
theorem dX12_heap_70 : decode cX12_heap 70 = .ok (.lload_n 3, 1) := eX12_heap_65.2.2.2.1
theorem dX12_heap_71 : decode cX12_heap 71 = .ok (.lconst 1, 1) := eX12_heap_65.2.2.2.2.1
theorem dX12_heap_72 : decode cX12_heap 72 = .ok (.invokevirtual 361, 3) := eX12_heap_65.2.2.2.2.2.1
theorem dX12_heap_75 : decode cX12_heap 75 = .ok (.ireturn, 1) := eX12_heap_65.2.2.2.2.2.2.1
theorem dX12_heap_76 : decode cX12_heap 76 = .ok (.aload_n 0, 1) := eX12_heap_65.2.2.2.2.2.2.2.1
theorem eX12_heap_77 : decode cX12_heap 77 = .ok (.lload_n 3, 1) ∧ decode cX12_heap 78 = .ok (.lload 7, 2) ∧ decode cX12_heap 80 = .ok (.lmul, 1) ∧ decode cX12_heap 81 = .ok (.lload 5, 2) ∧ decode cX12_heap 83 = .ok (.aload_n 0, 1) ∧ decode cX12_heap 84 = .ok (.iload_n 1, 1) ∧ decode cX12_heap 85 = .ok (.iload_n 2, 1) ∧ decode cX12_heap 86 = .ok (.invokevirtual 336, 3) ∧ True := dkl_ok (c := cX12_heap) [(.lload_n 3, 1), (.lload 7, 2), (.lmul, 1), (.lload 5, 2), (.aload_n 0, 1), (.iload_n 1, 1), (.iload_n 2, 1), (.invokevirtual 336, 3)] 77 (by decide +kernel)
theorem dX12_heap_77 : decode cX12_heap 77 = .ok (.lload_n 3, 1) := eX12_heap_77.1
theorem dX12_heap_78 : decode cX12_heap 78 = .ok (.lload 7, 2) := eX12_heap_77.2.1
theorem dX12_heap_80 : decode cX12_heap 80 = .ok (.lmul, 1) := eX12_heap_77.2.2.1
theorem dX12_heap_81 : decode cX12_heap 81 = .ok (.lload 5, 2) := eX12_heap_77.2.2.2.1
theorem dX12_heap_83 : decode cX12_heap 83 = .ok (.aload_n 0, 1) := eX12_heap_77.2.2.2.2.1
theorem dX12_heap_84 : decode cX12_heap 84 = .ok (.iload_n 1, 1) := eX12_heap_77.2.2.2.2.2.1
theorem dX12_heap_85 : decode cX12_heap 85 = .ok (.iload_n 2, 1) := eX12_heap_77.2.2.2.2.2.2.1
theorem dX12_heap_86 : decode cX12_heap 86 = .ok (.invokevirtual 336, 3) := eX12_heap_77.2.2.2.2.2.2.2.1
theorem eX12_heap_89 : decode cX12_heap 89 = .ok (.i2l, 1) ∧ decode cX12_heap 90 = .ok (.lmul, 1) ∧ decode cX12_heap 91 = .ok (.ladd, 1) ∧ decode cX12_heap 92 = .ok (.lload 7, 2) ∧ decode cX12_heap 94 = .ok (.invokevirtual 361, 3) ∧ decode cX12_heap 97 = .ok (.ireturn, 1) ∧ True := dkl_ok (c := cX12_heap) [(.i2l, 1), (.lmul, 1), (.ladd, 1), (.lload 7, 2), (.invokevirtual 361, 3), (.ireturn, 1)] 89 (by decide +kernel)
theorem dX12_heap_89 : decode cX12_heap 89 = .ok (.i2l, 1) := eX12_heap_89.1
theorem dX12_heap_90 : decode cX12_heap 90 = .ok (.lmul, 1) := eX12_heap_89.2.1
theorem dX12_heap_91 : decode cX12_heap 91 = .ok (.ladd, 1) := eX12_heap_89.2.2.1
theorem dX12_heap_92 : decode cX12_heap 92 = .ok (.lload 7, 2) := eX12_heap_89.2.2.2.1
theorem dX12_heap_94 : decode cX12_heap 94 = .ok (.invokevirtual 361, 3) := eX12_heap_89.2.2.2.2.1
theorem dX12_heap_97 : decode cX12_heap 97 = .ok (.ireturn, 1) := eX12_heap_89.2.2.2.2.2.1
theorem eX12_said_0 : decode cX12_said 0 = .ok (.aload_n 0, 1) ∧ decode cX12_said 1 = .ok (.iconst 0, 1) ∧ decode cX12_said 2 = .ok (.putfield 59, 3) ∧ decode cX12_said 5 = .ok (.aload_n 0, 1) ∧ decode cX12_said 6 = .ok (.iconst 0, 1) ∧ decode cX12_said 7 = .ok (.putfield 62, 3) ∧ decode cX12_said 10 = .ok (.aload_n 0, 1) ∧ decode cX12_said 11 = .ok (.iload_n 1, 1) ∧ True := dkl_ok (c := cX12_said) [(.aload_n 0, 1), (.iconst 0, 1), (.putfield 59, 3), (.aload_n 0, 1), (.iconst 0, 1), (.putfield 62, 3), (.aload_n 0, 1), (.iload_n 1, 1)] 0 (by decide +kernel)
theorem dX12_said_0 : decode cX12_said 0 = .ok (.aload_n 0, 1) := eX12_said_0.1
theorem dX12_said_1 : decode cX12_said 1 = .ok (.iconst 0, 1) := eX12_said_0.2.1
theorem dX12_said_2 : decode cX12_said 2 = .ok (.putfield 59, 3) := eX12_said_0.2.2.1
theorem dX12_said_5 : decode cX12_said 5 = .ok (.aload_n 0, 1) := eX12_said_0.2.2.2.1
theorem dX12_said_6 : decode cX12_said 6 = .ok (.iconst 0, 1) := eX12_said_0.2.2.2.2.1
theorem dX12_said_7 : decode cX12_said 7 = .ok (.putfield 62, 3) := eX12_said_0.2.2.2.2.2.1
theorem dX12_said_10 : decode cX12_said 10 = .ok (.aload_n 0, 1) := eX12_said_0.2.2.2.2.2.2.1
theorem dX12_said_11 : decode cX12_said 11 = .ok (.iload_n 1, 1) := eX12_said_0.2.2.2.2.2.2.2.1
theorem eX12_said_12 : decode cX12_said 12 = .ok (.invokevirtual 290, 3) ∧ decode cX12_said 15 = .ok (.ifCond .eq 11, 3) ∧ decode cX12_said 18 = .ok (.aload_n 0, 1) ∧ decode cX12_said 19 = .ok (.iload_n 2, 1) ∧ decode cX12_said 20 = .ok (.invokevirtual 299, 3) ∧ decode cX12_said 23 = .ok (.ifCond .ne 9, 3) ∧ decode cX12_said 26 = .ok (.aload_n 0, 1) ∧ decode cX12_said 27 = .ok (.iconst 2, 1) ∧ True := dkl_ok (c := cX12_said) [(.invokevirtual 290, 3), (.ifCond .eq 11, 3), (.aload_n 0, 1), (.iload_n 2, 1), (.invokevirtual 299, 3), (.ifCond .ne 9, 3), (.aload_n 0, 1), (.iconst 2, 1)] 12 (by decide +kernel)
theorem dX12_said_12 : decode cX12_said 12 = .ok (.invokevirtual 290, 3) := eX12_said_12.1
theorem dX12_said_15 : decode cX12_said 15 = .ok (.ifCond .eq 11, 3) := eX12_said_12.2.1
theorem dX12_said_18 : decode cX12_said 18 = .ok (.aload_n 0, 1) := eX12_said_12.2.2.1
theorem dX12_said_19 : decode cX12_said 19 = .ok (.iload_n 2, 1) := eX12_said_12.2.2.2.1
theorem dX12_said_20 : decode cX12_said 20 = .ok (.invokevirtual 299, 3) := eX12_said_12.2.2.2.2.1
theorem dX12_said_23 : decode cX12_said 23 = .ok (.ifCond .ne 9, 3) := eX12_said_12.2.2.2.2.2.1
theorem dX12_said_26 : decode cX12_said 26 = .ok (.aload_n 0, 1) := eX12_said_12.2.2.2.2.2.2.1
theorem dX12_said_27 : decode cX12_said 27 = .ok (.iconst 2, 1) := eX12_said_12.2.2.2.2.2.2.2.1
theorem eX12_said_28 : decode cX12_said 28 = .ok (.invokevirtual 284, 3) ∧ decode cX12_said 31 = .ok (.ireturn, 1) ∧ decode cX12_said 32 = .ok (.iconst 0, 1) ∧ decode cX12_said 33 = .ok (.istore_n 3, 1) ∧ decode cX12_said 34 = .ok (.iconst 0, 1) ∧ decode cX12_said 35 = .ok (.istore 4, 2) ∧ decode cX12_said 37 = .ok (.iload 4, 2) ∧ decode cX12_said 39 = .ok (.aload_n 0, 1) ∧ True := dkl_ok (c := cX12_said) [(.invokevirtual 284, 3), (.ireturn, 1), (.iconst 0, 1), (.istore_n 3, 1), (.iconst 0, 1), (.istore 4, 2), (.iload 4, 2), (.aload_n 0, 1)] 28 (by decide +kernel)
theorem dX12_said_28 : decode cX12_said 28 = .ok (.invokevirtual 284, 3) := eX12_said_28.1
theorem dX12_said_31 : decode cX12_said 31 = .ok (.ireturn, 1) := eX12_said_28.2.1
theorem dX12_said_32 : decode cX12_said 32 = .ok (.iconst 0, 1) := eX12_said_28.2.2.1
theorem dX12_said_33 : decode cX12_said 33 = .ok (.istore_n 3, 1) := eX12_said_28.2.2.2.1
theorem dX12_said_34 : decode cX12_said 34 = .ok (.iconst 0, 1) := eX12_said_28.2.2.2.2.1
theorem dX12_said_35 : decode cX12_said 35 = .ok (.istore 4, 2) := eX12_said_28.2.2.2.2.2.1
theorem dX12_said_37 : decode cX12_said 37 = .ok (.iload 4, 2) := eX12_said_28.2.2.2.2.2.2.1
theorem dX12_said_39 : decode cX12_said 39 = .ok (.aload_n 0, 1) := eX12_said_28.2.2.2.2.2.2.2.1
theorem eX12_said_40 : decode cX12_said 40 = .ok (.getfield 35, 3) ∧ decode cX12_said 43 = .ok (.bipush 9, 2) ∧ decode cX12_said 45 = .ok (.iaload, 1) ∧ decode cX12_said 46 = .ok (.if_icmp .ge 47, 3) ∧ decode cX12_said 49 = .ok (.iload_n 3, 1) ∧ decode cX12_said 50 = .ok (.aload_n 0, 1) ∧ decode cX12_said 51 = .ok (.getfield 35, 3) ∧ decode cX12_said 54 = .ok (.iload 4, 2) ∧ True := dkl_ok (c := cX12_said) [(.getfield 35, 3), (.bipush 9, 2), (.iaload, 1), (.if_icmp .ge 47, 3), (.iload_n 3, 1), (.aload_n 0, 1), (.getfield 35, 3), (.iload 4, 2)] 40 (by decide +kernel)
theorem dX12_said_40 : decode cX12_said 40 = .ok (.getfield 35, 3) := eX12_said_40.1
theorem dX12_said_43 : decode cX12_said 43 = .ok (.bipush 9, 2) := eX12_said_40.2.1
theorem dX12_said_45 : decode cX12_said 45 = .ok (.iaload, 1) := eX12_said_40.2.2.1
theorem dX12_said_46 : decode cX12_said 46 = .ok (.if_icmp .ge 47, 3) := eX12_said_40.2.2.2.1
theorem dX12_said_49 : decode cX12_said 49 = .ok (.iload_n 3, 1) := eX12_said_40.2.2.2.2.1
theorem dX12_said_50 : decode cX12_said 50 = .ok (.aload_n 0, 1) := eX12_said_40.2.2.2.2.2.1
theorem dX12_said_51 : decode cX12_said 51 = .ok (.getfield 35, 3) := eX12_said_40.2.2.2.2.2.2.1
theorem dX12_said_54 : decode cX12_said 54 = .ok (.iload 4, 2) := eX12_said_40.2.2.2.2.2.2.2.1
theorem eX12_said_56 : decode cX12_said 56 = .ok (.invokestatic 279, 3) ∧ decode cX12_said 59 = .ok (.iaload, 1) ∧ decode cX12_said 60 = .ok (.iload_n 1, 1) ∧ decode cX12_said 61 = .ok (.if_icmp .ne 23, 3) ∧ decode cX12_said 64 = .ok (.aload_n 0, 1) ∧ decode cX12_said 65 = .ok (.getfield 35, 3) ∧ decode cX12_said 68 = .ok (.iload 4, 2) ∧ decode cX12_said 70 = .ok (.invokestatic 279, 3) ∧ True := dkl_ok (c := cX12_said) [(.invokestatic 279, 3), (.iaload, 1), (.iload_n 1, 1), (.if_icmp .ne 23, 3), (.aload_n 0, 1), (.getfield 35, 3), (.iload 4, 2), (.invokestatic 279, 3)] 56 (by decide +kernel)
theorem dX12_said_56 : decode cX12_said 56 = .ok (.invokestatic 279, 3) := eX12_said_56.1
theorem dX12_said_59 : decode cX12_said 59 = .ok (.iaload, 1) := eX12_said_56.2.1
theorem dX12_said_60 : decode cX12_said 60 = .ok (.iload_n 1, 1) := eX12_said_56.2.2.1
theorem dX12_said_61 : decode cX12_said 61 = .ok (.if_icmp .ne 23, 3) := eX12_said_56.2.2.2.1
theorem dX12_said_64 : decode cX12_said 64 = .ok (.aload_n 0, 1) := eX12_said_56.2.2.2.2.1
theorem dX12_said_65 : decode cX12_said 65 = .ok (.getfield 35, 3) := eX12_said_56.2.2.2.2.2.1
theorem dX12_said_68 : decode cX12_said 68 = .ok (.iload 4, 2) := eX12_said_56.2.2.2.2.2.2.1
theorem dX12_said_70 : decode cX12_said 70 = .ok (.invokestatic 279, 3) := eX12_said_56.2.2.2.2.2.2.2.1
theorem eX12_said_73 : decode cX12_said 73 = .ok (.iconst 1, 1) ∧ decode cX12_said 74 = .ok (.iadd, 1) ∧ decode cX12_said 75 = .ok (.iaload, 1) ∧ decode cX12_said 76 = .ok (.iload_n 2, 1) ∧ decode cX12_said 77 = .ok (.if_icmp .ne 7, 3) ∧ decode cX12_said 80 = .ok (.iconst 1, 1) ∧ decode cX12_said 81 = .ok (.goto 4, 3) ∧ decode cX12_said 84 = .ok (.iconst 0, 1) ∧ True := dkl_ok (c := cX12_said) [(.iconst 1, 1), (.iadd, 1), (.iaload, 1), (.iload_n 2, 1), (.if_icmp .ne 7, 3), (.iconst 1, 1), (.goto 4, 3), (.iconst 0, 1)] 73 (by decide +kernel)
theorem dX12_said_73 : decode cX12_said 73 = .ok (.iconst 1, 1) := eX12_said_73.1
theorem dX12_said_74 : decode cX12_said 74 = .ok (.iadd, 1) := eX12_said_73.2.1
theorem dX12_said_75 : decode cX12_said 75 = .ok (.iaload, 1) := eX12_said_73.2.2.1
theorem dX12_said_76 : decode cX12_said 76 = .ok (.iload_n 2, 1) := eX12_said_73.2.2.2.1
theorem dX12_said_77 : decode cX12_said 77 = .ok (.if_icmp .ne 7, 3) := eX12_said_73.2.2.2.2.1
theorem dX12_said_80 : decode cX12_said 80 = .ok (.iconst 1, 1) := eX12_said_73.2.2.2.2.2.1
theorem dX12_said_81 : decode cX12_said 81 = .ok (.goto 4, 3) := eX12_said_73.2.2.2.2.2.2.1
theorem dX12_said_84 : decode cX12_said 84 = .ok (.iconst 0, 1) := eX12_said_73.2.2.2.2.2.2.2.1
theorem eX12_said_85 : decode cX12_said 85 = .ok (.iadd, 1) ∧ decode cX12_said 86 = .ok (.istore_n 3, 1) ∧ decode cX12_said 87 = .ok (.iinc 4 1, 3) ∧ decode cX12_said 90 = .ok (.goto (-53), 3) ∧ decode cX12_said 93 = .ok (.iload_n 3, 1) ∧ decode cX12_said 94 = .ok (.ireturn, 1) ∧ True := dkl_ok (c := cX12_said) [(.iadd, 1), (.istore_n 3, 1), (.iinc 4 1, 3), (.goto (-53), 3), (.iload_n 3, 1), (.ireturn, 1)] 85 (by decide +kernel)
theorem dX12_said_85 : decode cX12_said 85 = .ok (.iadd, 1) := eX12_said_85.1
theorem dX12_said_86 : decode cX12_said 86 = .ok (.istore_n 3, 1) := eX12_said_85.2.1
theorem dX12_said_87 : decode cX12_said 87 = .ok (.iinc 4 1, 3) := eX12_said_85.2.2.1
theorem dX12_said_90 : decode cX12_said 90 = .ok (.goto (-53), 3) := eX12_said_85.2.2.2.1
theorem dX12_said_93 : decode cX12_said 93 = .ok (.iload_n 3, 1) := eX12_said_85.2.2.2.2.1
theorem dX12_said_94 : decode cX12_said 94 = .ok (.ireturn, 1) := eX12_said_85.2.2.2.2.2.1
theorem eX12_waitsOf_0 : decode cX12_waitsOf 0 = .ok (.aload_n 0, 1) ∧ True := dkl_ok (c := cX12_waitsOf) [(.aload_n 0, 1)] 0 (by decide +kernel)
theorem dX12_waitsOf_0 : decode cX12_waitsOf 0 = .ok (.aload_n 0, 1) := eX12_waitsOf_0.1
