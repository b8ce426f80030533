theorem dL_step_195 : decode cL_step 195 = .ok (.aload 4, 2) := by decide +kernel
theorem dL_step_197 : decode cL_step 197 = .ok (.iload 8, 2) := by decide +kernel
theorem dL_step_199 : decode cL_step 199 = .ok (.iconst 3, 1) := by decide +kernel
theorem dL_step_200 : decode cL_step 200 = .ok (.iadd, 1) := by decide +kernel
theorem dL_step_201 : decode cL_step 201 = .ok (.iaload, 1) := by decide +kernel
theorem dL_step_202 : decode cL_step 202 = .ok (.invokevirtual 104, 3) := by decide +kernel
theorem dL_step_205 : decode cL_step 205 = .ok (.aload 6, 2) := by decide +kernel
theorem dL_step_207 : decode cL_step 207 = .ok (.iconst 0, 1) := by decide +kernel
theorem dL_step_208 : decode cL_step 208 = .ok (.iaload, 1) := by decide +kernel
theorem dL_step_209 : decode cL_step 209 = .ok (.iconst 1, 1) := by decide +kernel
theorem dL_step_210 : decode cL_step 210 = .ok (.isub, 1) := by decide +kernel
theorem dL_step_211 : decode cL_step 211 = .ok (.if_icmp .ne 7, 3) := by decide +kernel
theorem dL_step_214 : decode cL_step 214 = .ok (.iconst 1, 1) := by decide +kernel
theorem dL_step_215 : decode cL_step 215 = .ok (.goto 4, 3) := by decide +kernel
theorem dL_step_218 : decode cL_step 218 = .ok (.iconst 0, 1) := by decide +kernel
theorem dL_step_219 : decode cL_step 219 = .ok (.ireturn, 1) := by decide +kernel
theorem dL_step_220 : decode cL_step 220 = .ok (.iload_n 1, 1) := by decide +kernel
theorem dL_step_221 : decode cL_step 221 = .ok (.bipush 6, 2) := by decide +kernel
theorem dL_step_223 : decode cL_step 223 = .ok (.if_icmp .ge 132, 3) := by decide +kernel
theorem dL_step_226 : decode cL_step 226 = .ok (.iload_n 2, 1) := by decide +kernel
theorem dL_step_227 : decode cL_step 227 = .ok (.aload 6, 2) := by decide +kernel
theorem dL_step_229 : decode cL_step 229 = .ok (.iconst 0, 1) := by decide +kernel
theorem dL_step_230 : decode cL_step 230 = .ok (.iaload, 1) := by decide +kernel
theorem dL_step_231 : decode cL_step 231 = .ok (.irem, 1) := by decide +kernel
theorem dL_step_232 : decode cL_step 232 = .ok (.istore 8, 2) := by decide +kernel
theorem dL_step_234 : decode cL_step 234 = .ok (.iload_n 3, 1) := by decide +kernel
theorem dL_step_235 : decode cL_step 235 = .ok (.aload 6, 2) := by decide +kernel
theorem dL_step_237 : decode cL_step 237 = .ok (.iconst 2, 1) := by decide +kernel
theorem dL_step_238 : decode cL_step 238 = .ok (.iaload, 1) := by decide +kernel
theorem dL_step_239 : decode cL_step 239 = .ok (.irem, 1) := by decide +kernel
theorem dL_step_240 : decode cL_step 240 = .ok (.istore 9, 2) := by decide +kernel
theorem dL_step_242 : decode cL_step 242 = .ok (.aload 4, 2) := by decide +kernel
theorem dL_step_244 : decode cL_step 244 = .ok (.iconst 4, 1) := by decide +kernel
theorem dL_step_245 : decode cL_step 245 = .ok (.iload 8, 2) := by decide +kernel
theorem dL_step_247 : decode cL_step 247 = .ok (.imul, 1) := by decide +kernel
theorem dL_step_248 : decode cL_step 248 = .ok (.iaload, 1) := by decide +kernel
theorem dL_step_249 : decode cL_step 249 = .ok (.iconst 3, 1) := by decide +kernel
theorem dL_step_250 : decode cL_step 250 = .ok (.if_icmp .ne 14, 3) := by decide +kernel
theorem dL_step_253 : decode cL_step 253 = .ok (.iload_n 3, 1) := by decide +kernel
theorem dL_step_254 : decode cL_step 254 = .ok (.bipush 30, 2) := by decide +kernel
theorem dL_step_256 : decode cL_step 256 = .ok (.idiv, 1) := by decide +kernel
theorem dL_step_257 : decode cL_step 257 = .ok (.sipush 360, 3) := by decide +kernel
theorem dL_step_260 : decode cL_step 260 = .ok (.irem, 1) := by decide +kernel
theorem dL_step_261 : decode cL_step 261 = .ok (.goto 11, 3) := by decide +kernel
theorem dL_step_264 : decode cL_step 264 = .ok (.iload_n 3, 1) := by decide +kernel
theorem dL_step_265 : decode cL_step 265 = .ok (.bipush 30, 2) := by decide +kernel
theorem dL_step_267 : decode cL_step 267 = .ok (.idiv, 1) := by decide +kernel
theorem dL_step_268 : decode cL_step 268 = .ok (.sipush 201, 3) := by decide +kernel
theorem dL_step_271 : decode cL_step 271 = .ok (.irem, 1) := by decide +kernel
theorem dL_step_272 : decode cL_step 272 = .ok (.istore 10, 2) := by decide +kernel
theorem dL_step_274 : decode cL_step 274 = .ok (.iload_n 2, 1) := by decide +kernel
theorem dL_step_275 : decode cL_step 275 = .ok (.bipush 6, 2) := by decide +kernel
theorem dL_step_277 : decode cL_step 277 = .ok (.idiv, 1) := by decide +kernel
theorem dL_step_278 : decode cL_step 278 = .ok (.bipush 6, 2) := by decide +kernel
theorem dL_step_280 : decode cL_step 280 = .ok (.irem, 1) := by decide +kernel
theorem dL_step_281 : decode cL_step 281 = .ok (.istore 11, 2) := by decide +kernel
theorem dL_step_283 : decode cL_step 283 = .ok (.aload 6, 2) := by decide +kernel
theorem dL_step_285 : decode cL_step 285 = .ok (.iconst 1, 1) := by decide +kernel
theorem dL_step_286 : decode cL_step 286 = .ok (.iaload, 1) := by decide +kernel
theorem dL_step_287 : decode cL_step 287 = .ok (.bipush 24, 2) := by decide +kernel
theorem dL_step_289 : decode cL_step 289 = .ok (.if_icmp .ne 5, 3) := by decide +kernel
theorem dL_step_292 : decode cL_step 292 = .ok (.iconst 1, 1) := by decide +kernel
theorem dL_step_293 : decode cL_step 293 = .ok (.ireturn, 1) := by decide +kernel
theorem dL_step_294 : decode cL_step 294 = .ok (.aload 5, 2) := by decide +kernel
theorem dL_step_296 : decode cL_step 296 = .ok (.aload 6, 2) := by decide +kernel
theorem dL_step_298 : decode cL_step 298 = .ok (.iconst 1, 1) := by decide +kernel
theorem dL_step_299 : decode cL_step 299 = .ok (.iaload, 1) := by decide +kernel
theorem dL_step_300 : decode cL_step 300 = .ok (.iload 9, 2) := by decide +kernel
theorem dL_step_302 : decode cL_step 302 = .ok (.iload 8, 2) := by decide +kernel
theorem dL_step_304 : decode cL_step 304 = .ok (.iconst 5, 1) := by decide +kernel
theorem dL_step_305 : decode cL_step 305 = .ok (.ishl, 1) := by decide +kernel
theorem dL_step_306 : decode cL_step 306 = .ok (.ior, 1) := by decide +kernel
theorem dL_step_307 : decode cL_step 307 = .ok (.iload 11, 2) := by decide +kernel
theorem dL_step_309 : decode cL_step 309 = .ok (.bipush 8, 2) := by decide +kernel
theorem dL_step_311 : decode cL_step 311 = .ok (.ishl, 1) := by decide +kernel
theorem dL_step_312 : decode cL_step 312 = .ok (.ior, 1) := by decide +kernel
theorem dL_step_313 : decode cL_step 313 = .ok (.iload 10, 2) := by decide +kernel
theorem dL_step_315 : decode cL_step 315 = .ok (.bipush 11, 2) := by decide +kernel
theorem dL_step_317 : decode cL_step 317 = .ok (.ishl, 1) := by decide +kernel
theorem dL_step_318 : decode cL_step 318 = .ok (.ior, 1) := by decide +kernel
theorem dL_step_319 : decode cL_step 319 = .ok (.iastore, 1) := by decide +kernel
theorem dL_step_320 : decode cL_step 320 = .ok (.aload 6, 2) := by decide +kernel
theorem dL_step_322 : decode cL_step 322 = .ok (.iconst 1, 1) := by decide +kernel
theorem dL_step_323 : decode cL_step 323 = .ok (.dup2, 1) := by decide +kernel
theorem dL_step_324 : decode cL_step 324 = .ok (.iaload, 1) := by decide +kernel
theorem dL_step_325 : decode cL_step 325 = .ok (.iconst 1, 1) := by decide +kernel
theorem dL_step_326 : decode cL_step 326 = .ok (.iadd, 1) := by decide +kernel
theorem dL_step_327 : decode cL_step 327 = .ok (.iastore, 1) := by decide +kernel
theorem dL_step_328 : decode cL_step 328 = .ok (.aload_n 0, 1) := by decide +kernel
theorem dL_step_329 : decode cL_step 329 = .ok (.iload 8, 2) := by decide +kernel
theorem dL_step_331 : decode cL_step 331 = .ok (.iload 9, 2) := by decide +kernel
theorem dL_step_333 : decode cL_step 333 = .ok (.iload 10, 2) := by decide +kernel
theorem dL_step_335 : decode cL_step 335 = .ok (.iload 11, 2) := by decide +kernel
theorem dL_step_337 : decode cL_step 337 = .ok (.invokevirtual 108, 3) := by decide +kernel
theorem dL_step_340 : decode cL_step 340 = .ok (.aload 6, 2) := by decide +kernel
theorem dL_step_342 : decode cL_step 342 = .ok (.iconst 1, 1) := by decide +kernel
theorem dL_step_343 : decode cL_step 343 = .ok (.iaload, 1) := by decide +kernel
theorem dL_step_344 : decode cL_step 344 = .ok (.iconst 1, 1) := by decide +kernel
theorem dL_step_345 : decode cL_step 345 = .ok (.isub, 1) := by decide +kernel
theorem dL_step_346 : decode cL_step 346 = .ok (.if_icmp .ne 7, 3) := by decide +kernel
theorem dL_step_349 : decode cL_step 349 = .ok (.iconst 1, 1) := by decide +kernel
theorem dL_step_350 : decode cL_step 350 = .ok (.goto 4, 3) := by decide +kernel
theorem dL_step_353 : decode cL_step 353 = .ok (.iconst 0, 1) := by decide +kernel
theorem dL_step_354 : decode cL_step 354 = .ok (.ireturn, 1) := by decide +kernel
theorem dL_step_355 : decode cL_step 355 = .ok (.iload_n 1, 1) := by decide +kernel
theorem dL_step_356 : decode cL_step 356 = .ok (.bipush 6, 2) := by decide +kernel
theorem dL_step_358 : decode cL_step 358 = .ok (.if_icmp .ne 98, 3) := by decide +kernel
theorem dL_step_361 : decode cL_step 361 = .ok (.iload_n 2, 1) := by decide +kernel
theorem dL_step_362 : decode cL_step 362 = .ok (.aload 6, 2) := by decide +kernel
theorem dL_step_364 : decode cL_step 364 = .ok (.iconst 1, 1) := by decide +kernel
theorem dL_step_365 : decode cL_step 365 = .ok (.iaload, 1) := by decide +kernel
theorem dL_step_366 : decode cL_step 366 = .ok (.iconst 1, 1) := by decide +kernel
theorem dL_step_367 : decode cL_step 367 = .ok (.iadd, 1) := by decide +kernel
theorem dL_step_368 : decode cL_step 368 = .ok (.irem, 1) := by decide +kernel
theorem dL_step_369 : decode cL_step 369 = .ok (.istore 8, 2) := by decide +kernel
theorem dL_step_371 : decode cL_step 371 = .ok (.iload 8, 2) := by decide +kernel
theorem dL_step_373 : decode cL_step 373 = .ok (.aload 6, 2) := by decide +kernel
theorem dL_step_375 : decode cL_step 375 = .ok (.iconst 1, 1) := by decide +kernel
theorem dL_step_376 : decode cL_step 376 = .ok (.iaload, 1) := by decide +kernel
theorem dL_step_377 : decode cL_step 377 = .ok (.if_icmp .ge 17, 3) := by decide +kernel
theorem dL_step_380 : decode cL_step 380 = .ok (.aload 5, 2) := by decide +kernel
theorem dL_step_382 : decode cL_step 382 = .ok (.iload 8, 2) := by decide +kernel
theorem dL_step_384 : decode cL_step 384 = .ok (.invokestatic 10, 3) := by decide +kernel
theorem dL_step_387 : decode cL_step 387 = .ok (.ifCond .ne 7, 3) := by decide +kernel
theorem dL_step_390 : decode cL_step 390 = .ok (.iconst 1, 1) := by decide +kernel
theorem dL_step_391 : decode cL_step 391 = .ok (.goto 4, 3) := by decide +kernel
theorem dL_step_394 : decode cL_step 394 = .ok (.iconst 0, 1) := by decide +kernel
theorem dL_step_395 : decode cL_step 395 = .ok (.istore 9, 2) := by decide +kernel
theorem dL_step_397 : decode cL_step 397 = .ok (.iload 9, 2) := by decide +kernel
