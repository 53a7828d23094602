theorem dL_0 : decode code 0 = .ok (.new 7, 3) := by decide +kernel
theorem dL_3 : decode code 3 = .ok (.dup, 1) := by decide +kernel
theorem dL_4 : decode code 4 = .ok (.invokespecial 9, 3) := by decide +kernel
theorem dL_7 : decode code 7 = .ok (.astore_n 1, 1) := by decide +kernel
theorem dL_8 : decode code 8 = .ok (.new 10, 3) := by decide +kernel
theorem dL_11 : decode code 11 = .ok (.dup, 1) := by decide +kernel
theorem dL_12 : decode code 12 = .ok (.invokespecial 12, 3) := by decide +kernel
theorem dL_15 : decode code 15 = .ok (.astore_n 2, 1) := by decide +kernel
theorem dL_16 : decode code 16 = .ok (.iconst 0, 1) := by decide +kernel
theorem dL_17 : decode code 17 = .ok (.istore_n 3, 1) := by decide +kernel
theorem dL_18 : decode code 18 = .ok (.iload_n 3, 1) := by decide +kernel
theorem dL_19 : decode code 19 = .ok (.aload_n 0, 1) := by decide +kernel
theorem dL_20 : decode code 20 = .ok (.arraylength, 1) := by decide +kernel
theorem dL_21 : decode code 21 = .ok (.bipush 6, 2) := by decide +kernel
theorem dL_23 : decode code 23 = .ok (.isub, 1) := by decide +kernel
theorem dL_24 : decode code 24 = .ok (.if_icmp .gt 812, 3) := by decide +kernel
theorem dL_27 : decode code 27 = .ok (.aload_n 0, 1) := by decide +kernel
theorem dL_28 : decode code 28 = .ok (.iload_n 3, 1) := by decide +kernel
theorem dL_29 : decode code 29 = .ok (.iaload, 1) := by decide +kernel
theorem dL_30 : decode code 30 = .ok (.bipush 31, 2) := by decide +kernel
theorem dL_32 : decode code 32 = .ok (.iand, 1) := by decide +kernel
theorem dL_33 : decode code 33 = .ok (.tableswitch 797 0 25 #[119, 152, 185, 248, 271, 294, 317, 350, 373, 406, 439, 462, 485, 508, 531, 564, 587, 600, 613, 646, 689, 702, 725, 738, 751, 774], 119) := by decide +kernel
theorem dL_152 : decode code 152 = .ok (.aload_n 1, 1) := by decide +kernel
theorem dL_153 : decode code 153 = .ok (.aload_n 0, 1) := by decide +kernel
theorem dL_154 : decode code 154 = .ok (.iload_n 3, 1) := by decide +kernel
theorem dL_155 : decode code 155 = .ok (.iconst 1, 1) := by decide +kernel
theorem dL_156 : decode code 156 = .ok (.iadd, 1) := by decide +kernel
theorem dL_157 : decode code 157 = .ok (.iaload, 1) := by decide +kernel
theorem dL_158 : decode code 158 = .ok (.aload_n 0, 1) := by decide +kernel
theorem dL_159 : decode code 159 = .ok (.iload_n 3, 1) := by decide +kernel
theorem dL_160 : decode code 160 = .ok (.iconst 2, 1) := by decide +kernel
theorem dL_161 : decode code 161 = .ok (.iadd, 1) := by decide +kernel
theorem dL_162 : decode code 162 = .ok (.iaload, 1) := by decide +kernel
theorem dL_163 : decode code 163 = .ok (.invokevirtual 13, 3) := by decide +kernel
theorem dL_166 : decode code 166 = .ok (.pop, 1) := by decide +kernel
theorem dL_167 : decode code 167 = .ok (.aload_n 2, 1) := by decide +kernel
theorem dL_168 : decode code 168 = .ok (.aload_n 0, 1) := by decide +kernel
theorem dL_169 : decode code 169 = .ok (.iload_n 3, 1) := by decide +kernel
theorem dL_170 : decode code 170 = .ok (.iconst 1, 1) := by decide +kernel
theorem dL_171 : decode code 171 = .ok (.iadd, 1) := by decide +kernel
theorem dL_172 : decode code 172 = .ok (.iaload, 1) := by decide +kernel
theorem dL_173 : decode code 173 = .ok (.aload_n 0, 1) := by decide +kernel
theorem dL_174 : decode code 174 = .ok (.iload_n 3, 1) := by decide +kernel
theorem dL_175 : decode code 175 = .ok (.iconst 2, 1) := by decide +kernel
theorem dL_176 : decode code 176 = .ok (.iadd, 1) := by decide +kernel
theorem dL_177 : decode code 177 = .ok (.iaload, 1) := by decide +kernel
theorem dL_178 : decode code 178 = .ok (.invokevirtual 17, 3) := by decide +kernel
theorem dL_181 : decode code 181 = .ok (.pop, 1) := by decide +kernel
theorem dL_182 : decode code 182 = .ok (.goto 648, 3) := by decide +kernel
theorem dL_185 : decode code 185 = .ok (.aload_n 1, 1) := by decide +kernel
theorem dL_186 : decode code 186 = .ok (.aload_n 0, 1) := by decide +kernel
theorem dL_187 : decode code 187 = .ok (.iload_n 3, 1) := by decide +kernel
theorem dL_188 : decode code 188 = .ok (.iconst 1, 1) := by decide +kernel
theorem dL_189 : decode code 189 = .ok (.iadd, 1) := by decide +kernel
theorem dL_190 : decode code 190 = .ok (.iaload, 1) := by decide +kernel
theorem dL_191 : decode code 191 = .ok (.aload_n 0, 1) := by decide +kernel
theorem dL_192 : decode code 192 = .ok (.iload_n 3, 1) := by decide +kernel
theorem dL_193 : decode code 193 = .ok (.iconst 2, 1) := by decide +kernel
theorem dL_194 : decode code 194 = .ok (.iadd, 1) := by decide +kernel
theorem dL_195 : decode code 195 = .ok (.iaload, 1) := by decide +kernel
theorem dL_196 : decode code 196 = .ok (.invokevirtual 18, 3) := by decide +kernel
theorem dL_199 : decode code 199 = .ok (.pop, 1) := by decide +kernel
theorem dL_200 : decode code 200 = .ok (.aload_n 2, 1) := by decide +kernel
theorem dL_201 : decode code 201 = .ok (.aload_n 0, 1) := by decide +kernel
theorem dL_202 : decode code 202 = .ok (.iload_n 3, 1) := by decide +kernel
theorem dL_203 : decode code 203 = .ok (.iconst 1, 1) := by decide +kernel
theorem dL_204 : decode code 204 = .ok (.iadd, 1) := by decide +kernel
theorem dL_205 : decode code 205 = .ok (.iaload, 1) := by decide +kernel
theorem dL_206 : decode code 206 = .ok (.aload_n 0, 1) := by decide +kernel
theorem dL_207 : decode code 207 = .ok (.iload_n 3, 1) := by decide +kernel
theorem dL_208 : decode code 208 = .ok (.iconst 2, 1) := by decide +kernel
theorem dL_209 : decode code 209 = .ok (.iadd, 1) := by decide +kernel
theorem dL_210 : decode code 210 = .ok (.iaload, 1) := by decide +kernel
theorem dL_211 : decode code 211 = .ok (.invokevirtual 21, 3) := by decide +kernel
theorem dL_214 : decode code 214 = .ok (.pop, 1) := by decide +kernel
theorem dL_215 : decode code 215 = .ok (.goto 615, 3) := by decide +kernel
theorem dL_218 : decode code 218 = .ok (.aload_n 1, 1) := by decide +kernel
theorem dL_219 : decode code 219 = .ok (.aload_n 0, 1) := by decide +kernel
theorem dL_220 : decode code 220 = .ok (.iload_n 3, 1) := by decide +kernel
theorem dL_221 : decode code 221 = .ok (.iconst 1, 1) := by decide +kernel
theorem dL_222 : decode code 222 = .ok (.iadd, 1) := by decide +kernel
theorem dL_223 : decode code 223 = .ok (.iaload, 1) := by decide +kernel
theorem dL_224 : decode code 224 = .ok (.aload_n 0, 1) := by decide +kernel
theorem dL_225 : decode code 225 = .ok (.iload_n 3, 1) := by decide +kernel
theorem dL_226 : decode code 226 = .ok (.iconst 2, 1) := by decide +kernel
theorem dL_227 : decode code 227 = .ok (.iadd, 1) := by decide +kernel
theorem dL_228 : decode code 228 = .ok (.iaload, 1) := by decide +kernel
theorem dL_229 : decode code 229 = .ok (.aload_n 0, 1) := by decide +kernel
theorem dL_230 : decode code 230 = .ok (.iload_n 3, 1) := by decide +kernel
theorem dL_231 : decode code 231 = .ok (.iconst 3, 1) := by decide +kernel
theorem dL_232 : decode code 232 = .ok (.iadd, 1) := by decide +kernel
theorem dL_233 : decode code 233 = .ok (.iaload, 1) := by decide +kernel
theorem dL_234 : decode code 234 = .ok (.aload_n 0, 1) := by decide +kernel
theorem dL_235 : decode code 235 = .ok (.iload_n 3, 1) := by decide +kernel
theorem dL_236 : decode code 236 = .ok (.iconst 4, 1) := by decide +kernel
theorem dL_237 : decode code 237 = .ok (.iadd, 1) := by decide +kernel
theorem dL_238 : decode code 238 = .ok (.iaload, 1) := by decide +kernel
theorem dL_239 : decode code 239 = .ok (.aload_n 0, 1) := by decide +kernel
theorem dL_240 : decode code 240 = .ok (.iload_n 3, 1) := by decide +kernel
theorem dL_241 : decode code 241 = .ok (.iconst 5, 1) := by decide +kernel
theorem dL_242 : decode code 242 = .ok (.iadd, 1) := by decide +kernel
theorem dL_243 : decode code 243 = .ok (.iaload, 1) := by decide +kernel
theorem dL_244 : decode code 244 = .ok (.invokevirtual 22, 3) := by decide +kernel
theorem dL_247 : decode code 247 = .ok (.pop, 1) := by decide +kernel
theorem dL_248 : decode code 248 = .ok (.aload_n 2, 1) := by decide +kernel
theorem dL_249 : decode code 249 = .ok (.aload_n 0, 1) := by decide +kernel
theorem dL_250 : decode code 250 = .ok (.iload_n 3, 1) := by decide +kernel
theorem dL_251 : decode code 251 = .ok (.iconst 1, 1) := by decide +kernel
theorem dL_252 : decode code 252 = .ok (.iadd, 1) := by decide +kernel
theorem dL_253 : decode code 253 = .ok (.iaload, 1) := by decide +kernel
theorem dL_254 : decode code 254 = .ok (.aload_n 0, 1) := by decide +kernel
theorem dL_255 : decode code 255 = .ok (.iload_n 3, 1) := by decide +kernel
theorem dL_256 : decode code 256 = .ok (.iconst 2, 1) := by decide +kernel
theorem dL_257 : decode code 257 = .ok (.iadd, 1) := by decide +kernel
theorem dL_258 : decode code 258 = .ok (.iaload, 1) := by decide +kernel
theorem dL_259 : decode code 259 = .ok (.aload_n 0, 1) := by decide +kernel
theorem dL_260 : decode code 260 = .ok (.iload_n 3, 1) := by decide +kernel
theorem dL_261 : decode code 261 = .ok (.iconst 3, 1) := by decide +kernel
theorem dL_262 : decode code 262 = .ok (.iadd, 1) := by decide +kernel
theorem dL_263 : decode code 263 = .ok (.iaload, 1) := by decide +kernel
theorem dL_264 : decode code 264 = .ok (.aload_n 0, 1) := by decide +kernel
theorem dL_265 : decode code 265 = .ok (.iload_n 3, 1) := by decide +kernel
theorem dL_266 : decode code 266 = .ok (.iconst 4, 1) := by decide +kernel
theorem dL_267 : decode code 267 = .ok (.iadd, 1) := by decide +kernel
theorem dL_268 : decode code 268 = .ok (.iaload, 1) := by decide +kernel
theorem dL_269 : decode code 269 = .ok (.aload_n 0, 1) := by decide +kernel
theorem dL_270 : decode code 270 = .ok (.iload_n 3, 1) := by decide +kernel
theorem dL_271 : decode code 271 = .ok (.iconst 5, 1) := by decide +kernel
theorem dL_272 : decode code 272 = .ok (.iadd, 1) := by decide +kernel
theorem dL_273 : decode code 273 = .ok (.iaload, 1) := by decide +kernel
theorem dL_274 : decode code 274 = .ok (.invokevirtual 26, 3) := by decide +kernel
theorem dL_277 : decode code 277 = .ok (.pop, 1) := by decide +kernel
theorem dL_278 : decode code 278 = .ok (.goto 552, 3) := by decide +kernel
theorem dL_281 : decode code 281 = .ok (.aload_n 1, 1) := by decide +kernel
theorem dL_282 : decode code 282 = .ok (.aload_n 0, 1) := by decide +kernel
theorem dL_283 : decode code 283 = .ok (.iload_n 3, 1) := by decide +kernel
theorem dL_284 : decode code 284 = .ok (.iconst 1, 1) := by decide +kernel
theorem dL_285 : decode code 285 = .ok (.iadd, 1) := by decide +kernel
theorem dL_286 : decode code 286 = .ok (.iaload, 1) := by decide +kernel
theorem dL_287 : decode code 287 = .ok (.invokevirtual 27, 3) := by decide +kernel
theorem dL_290 : decode code 290 = .ok (.pop, 1) := by decide +kernel
theorem dL_291 : decode code 291 = .ok (.aload_n 2, 1) := by decide +kernel
theorem dL_292 : decode code 292 = .ok (.aload_n 0, 1) := by decide +kernel
theorem dL_293 : decode code 293 = .ok (.iload_n 3, 1) := by decide +kernel
theorem dL_294 : decode code 294 = .ok (.iconst 1, 1) := by decide +kernel
theorem dL_295 : decode code 295 = .ok (.iadd, 1) := by decide +kernel
theorem dL_296 : decode code 296 = .ok (.iaload, 1) := by decide +kernel
theorem dL_297 : decode code 297 = .ok (.invokevirtual 31, 3) := by decide +kernel
theorem dL_300 : decode code 300 = .ok (.pop, 1) := by decide +kernel
theorem dL_301 : decode code 301 = .ok (.goto 529, 3) := by decide +kernel
theorem dL_304 : decode code 304 = .ok (.aload_n 1, 1) := by decide +kernel
theorem dL_305 : decode code 305 = .ok (.aload_n 0, 1) := by decide +kernel
theorem dL_306 : decode code 306 = .ok (.iload_n 3, 1) := by decide +kernel
theorem dL_307 : decode code 307 = .ok (.iconst 1, 1) := by decide +kernel
theorem dL_308 : decode code 308 = .ok (.iadd, 1) := by decide +kernel
theorem dL_309 : decode code 309 = .ok (.iaload, 1) := by decide +kernel
theorem dL_310 : decode code 310 = .ok (.invokevirtual 32, 3) := by decide +kernel
theorem dL_313 : decode code 313 = .ok (.pop, 1) := by decide +kernel
theorem dL_314 : decode code 314 = .ok (.aload_n 2, 1) := by decide +kernel
theorem dL_315 : decode code 315 = .ok (.aload_n 0, 1) := by decide +kernel
theorem dL_316 : decode code 316 = .ok (.iload_n 3, 1) := by decide +kernel
theorem dL_317 : decode code 317 = .ok (.iconst 1, 1) := by decide +kernel
theorem dL_318 : decode code 318 = .ok (.iadd, 1) := by decide +kernel
theorem dL_319 : decode code 319 = .ok (.iaload, 1) := by decide +kernel
theorem dL_320 : decode code 320 = .ok (.invokevirtual 35, 3) := by decide +kernel
theorem dL_323 : decode code 323 = .ok (.pop, 1) := by decide +kernel
theorem dL_324 : decode code 324 = .ok (.goto 506, 3) := by decide +kernel
theorem dL_327 : decode code 327 = .ok (.aload_n 1, 1) := by decide +kernel
theorem dL_328 : decode code 328 = .ok (.aload_n 0, 1) := by decide +kernel
theorem dL_329 : decode code 329 = .ok (.iload_n 3, 1) := by decide +kernel
theorem dL_330 : decode code 330 = .ok (.iconst 1, 1) := by decide +kernel
theorem dL_331 : decode code 331 = .ok (.iadd, 1) := by decide +kernel
theorem dL_332 : decode code 332 = .ok (.iaload, 1) := by decide +kernel
theorem dL_333 : decode code 333 = .ok (.invokevirtual 36, 3) := by decide +kernel
theorem dL_336 : decode code 336 = .ok (.pop, 1) := by decide +kernel
theorem dL_337 : decode code 337 = .ok (.aload_n 2, 1) := by decide +kernel
theorem dL_338 : decode code 338 = .ok (.aload_n 0, 1) := by decide +kernel
theorem dL_339 : decode code 339 = .ok (.iload_n 3, 1) := by decide +kernel
theorem dL_340 : decode code 340 = .ok (.iconst 1, 1) := by decide +kernel
theorem dL_341 : decode code 341 = .ok (.iadd, 1) := by decide +kernel
theorem dL_342 : decode code 342 = .ok (.iaload, 1) := by decide +kernel
theorem dL_343 : decode code 343 = .ok (.invokevirtual 39, 3) := by decide +kernel
theorem dL_346 : decode code 346 = .ok (.pop, 1) := by decide +kernel
theorem dL_347 : decode code 347 = .ok (.goto 483, 3) := by decide +kernel
theorem dL_350 : decode code 350 = .ok (.aload_n 1, 1) := by decide +kernel
theorem dL_351 : decode code 351 = .ok (.aload_n 0, 1) := by decide +kernel
theorem dL_352 : decode code 352 = .ok (.iload_n 3, 1) := by decide +kernel
theorem dL_353 : decode code 353 = .ok (.iconst 1, 1) := by decide +kernel
theorem dL_354 : decode code 354 = .ok (.iadd, 1) := by decide +kernel
theorem dL_355 : decode code 355 = .ok (.iaload, 1) := by decide +kernel
theorem dL_356 : decode code 356 = .ok (.aload_n 0, 1) := by decide +kernel
theorem dL_357 : decode code 357 = .ok (.iload_n 3, 1) := by decide +kernel
theorem dL_358 : decode code 358 = .ok (.iconst 2, 1) := by decide +kernel
theorem dL_359 : decode code 359 = .ok (.iadd, 1) := by decide +kernel
theorem dL_360 : decode code 360 = .ok (.iaload, 1) := by decide +kernel
theorem dL_361 : decode code 361 = .ok (.invokevirtual 40, 3) := by decide +kernel
theorem dL_364 : decode code 364 = .ok (.pop, 1) := by decide +kernel
theorem dL_365 : decode code 365 = .ok (.aload_n 2, 1) := by decide +kernel
theorem dL_366 : decode code 366 = .ok (.aload_n 0, 1) := by decide +kernel
theorem dL_367 : decode code 367 = .ok (.iload_n 3, 1) := by decide +kernel
theorem dL_368 : decode code 368 = .ok (.iconst 1, 1) := by decide +kernel
theorem dL_369 : decode code 369 = .ok (.iadd, 1) := by decide +kernel
theorem dL_370 : decode code 370 = .ok (.iaload, 1) := by decide +kernel
theorem dL_371 : decode code 371 = .ok (.aload_n 0, 1) := by decide +kernel
theorem dL_372 : decode code 372 = .ok (.iload_n 3, 1) := by decide +kernel
theorem dL_373 : decode code 373 = .ok (.iconst 2, 1) := by decide +kernel
theorem dL_374 : decode code 374 = .ok (.iadd, 1) := by decide +kernel
theorem dL_375 : decode code 375 = .ok (.iaload, 1) := by decide +kernel
theorem dL_376 : decode code 376 = .ok (.invokevirtual 44, 3) := by decide +kernel
theorem dL_379 : decode code 379 = .ok (.pop, 1) := by decide +kernel
theorem dL_380 : decode code 380 = .ok (.goto 450, 3) := by decide +kernel
theorem dL_383 : decode code 383 = .ok (.aload_n 1, 1) := by decide +kernel
theorem dL_384 : decode code 384 = .ok (.aload_n 0, 1) := by decide +kernel
theorem dL_385 : decode code 385 = .ok (.iload_n 3, 1) := by decide +kernel
theorem dL_386 : decode code 386 = .ok (.iconst 1, 1) := by decide +kernel
theorem dL_387 : decode code 387 = .ok (.iadd, 1) := by decide +kernel
theorem dL_388 : decode code 388 = .ok (.iaload, 1) := by decide +kernel
theorem dL_389 : decode code 389 = .ok (.invokevirtual 45, 3) := by decide +kernel
theorem dL_392 : decode code 392 = .ok (.pop, 1) := by decide +kernel
theorem dL_393 : decode code 393 = .ok (.aload_n 2, 1) := by decide +kernel
theorem dL_394 : decode code 394 = .ok (.aload_n 0, 1) := by decide +kernel
theorem dL_395 : decode code 395 = .ok (.iload_n 3, 1) := by decide +kernel
theorem dL_396 : decode code 396 = .ok (.iconst 1, 1) := by decide +kernel
theorem dL_397 : decode code 397 = .ok (.iadd, 1) := by decide +kernel
theorem dL_398 : decode code 398 = .ok (.iaload, 1) := by decide +kernel
theorem dL_399 : decode code 399 = .ok (.invokevirtual 48, 3) := by decide +kernel
theorem dL_402 : decode code 402 = .ok (.pop, 1) := by decide +kernel
theorem dL_403 : decode code 403 = .ok (.goto 427, 3) := by decide +kernel
theorem dL_406 : decode code 406 = .ok (.aload_n 1, 1) := by decide +kernel
theorem dL_407 : decode code 407 = .ok (.aload_n 0, 1) := by decide +kernel
theorem dL_408 : decode code 408 = .ok (.iload_n 3, 1) := by decide +kernel
theorem dL_409 : decode code 409 = .ok (.iconst 1, 1) := by decide +kernel
theorem dL_410 : decode code 410 = .ok (.iadd, 1) := by decide +kernel
theorem dL_411 : decode code 411 = .ok (.iaload, 1) := by decide +kernel
theorem dL_412 : decode code 412 = .ok (.aload_n 0, 1) := by decide +kernel
theorem dL_413 : decode code 413 = .ok (.iload_n 3, 1) := by decide +kernel
theorem dL_414 : decode code 414 = .ok (.iconst 2, 1) := by decide +kernel
theorem dL_415 : decode code 415 = .ok (.iadd, 1) := by decide +kernel
theorem dL_416 : decode code 416 = .ok (.iaload, 1) := by decide +kernel
theorem dL_417 : decode code 417 = .ok (.invokevirtual 49, 3) := by decide +kernel
theorem dL_420 : decode code 420 = .ok (.pop, 1) := by decide +kernel
theorem dL_421 : decode code 421 = .ok (.aload_n 2, 1) := by decide +kernel
theorem dL_422 : decode code 422 = .ok (.aload_n 0, 1) := by decide +kernel
theorem dL_423 : decode code 423 = .ok (.iload_n 3, 1) := by decide +kernel
theorem dL_424 : decode code 424 = .ok (.iconst 1, 1) := by decide +kernel
theorem dL_425 : decode code 425 = .ok (.iadd, 1) := by decide +kernel
theorem dL_426 : decode code 426 = .ok (.iaload, 1) := by decide +kernel
theorem dL_427 : decode code 427 = .ok (.aload_n 0, 1) := by decide +kernel
theorem dL_428 : decode code 428 = .ok (.iload_n 3, 1) := by decide +kernel
theorem dL_429 : decode code 429 = .ok (.iconst 2, 1) := by decide +kernel
theorem dL_430 : decode code 430 = .ok (.iadd, 1) := by decide +kernel
theorem dL_431 : decode code 431 = .ok (.iaload, 1) := by decide +kernel
theorem dL_432 : decode code 432 = .ok (.invokevirtual 52, 3) := by decide +kernel
theorem dL_435 : decode code 435 = .ok (.pop, 1) := by decide +kernel
theorem dL_436 : decode code 436 = .ok (.goto 394, 3) := by decide +kernel
theorem dL_439 : decode code 439 = .ok (.aload_n 1, 1) := by decide +kernel
theorem dL_440 : decode code 440 = .ok (.aload_n 0, 1) := by decide +kernel
theorem dL_441 : decode code 441 = .ok (.iload_n 3, 1) := by decide +kernel
theorem dL_442 : decode code 442 = .ok (.iconst 1, 1) := by decide +kernel
theorem dL_443 : decode code 443 = .ok (.iadd, 1) := by decide +kernel
theorem dL_444 : decode code 444 = .ok (.iaload, 1) := by decide +kernel
theorem dL_445 : decode code 445 = .ok (.aload_n 0, 1) := by decide +kernel
theorem dL_446 : decode code 446 = .ok (.iload_n 3, 1) := by decide +kernel
theorem dL_447 : decode code 447 = .ok (.iconst 2, 1) := by decide +kernel
theorem dL_448 : decode code 448 = .ok (.iadd, 1) := by decide +kernel
theorem dL_449 : decode code 449 = .ok (.iaload, 1) := by decide +kernel
theorem dL_450 : decode code 450 = .ok (.invokevirtual 53, 3) := by decide +kernel
theorem dL_453 : decode code 453 = .ok (.pop, 1) := by decide +kernel
theorem dL_454 : decode code 454 = .ok (.aload_n 2, 1) := by decide +kernel
theorem dL_455 : decode code 455 = .ok (.aload_n 0, 1) := by decide +kernel
theorem dL_456 : decode code 456 = .ok (.iload_n 3, 1) := by decide +kernel
theorem dL_457 : decode code 457 = .ok (.iconst 1, 1) := by decide +kernel
theorem dL_458 : decode code 458 = .ok (.iadd, 1) := by decide +kernel
theorem dL_459 : decode code 459 = .ok (.iaload, 1) := by decide +kernel
theorem dL_460 : decode code 460 = .ok (.aload_n 0, 1) := by decide +kernel
theorem dL_461 : decode code 461 = .ok (.iload_n 3, 1) := by decide +kernel
theorem dL_462 : decode code 462 = .ok (.iconst 2, 1) := by decide +kernel
theorem dL_463 : decode code 463 = .ok (.iadd, 1) := by decide +kernel
theorem dL_464 : decode code 464 = .ok (.iaload, 1) := by decide +kernel
theorem dL_465 : decode code 465 = .ok (.invokevirtual 56, 3) := by decide +kernel
theorem dL_468 : decode code 468 = .ok (.pop, 1) := by decide +kernel
theorem dL_469 : decode code 469 = .ok (.goto 361, 3) := by decide +kernel
theorem dL_472 : decode code 472 = .ok (.aload_n 1, 1) := by decide +kernel
theorem dL_473 : decode code 473 = .ok (.aload_n 0, 1) := by decide +kernel
theorem dL_474 : decode code 474 = .ok (.iload_n 3, 1) := by decide +kernel
theorem dL_475 : decode code 475 = .ok (.iconst 1, 1) := by decide +kernel
theorem dL_476 : decode code 476 = .ok (.iadd, 1) := by decide +kernel
theorem dL_477 : decode code 477 = .ok (.iaload, 1) := by decide +kernel
theorem dL_478 : decode code 478 = .ok (.invokevirtual 57, 3) := by decide +kernel
theorem dL_481 : decode code 481 = .ok (.pop, 1) := by decide +kernel
theorem dL_482 : decode code 482 = .ok (.aload_n 2, 1) := by decide +kernel
theorem dL_483 : decode code 483 = .ok (.aload_n 0, 1) := by decide +kernel
theorem dL_484 : decode code 484 = .ok (.iload_n 3, 1) := by decide +kernel
theorem dL_485 : decode code 485 = .ok (.iconst 1, 1) := by decide +kernel
theorem dL_486 : decode code 486 = .ok (.iadd, 1) := by decide +kernel
theorem dL_487 : decode code 487 = .ok (.iaload, 1) := by decide +kernel
theorem dL_488 : decode code 488 = .ok (.invokevirtual 60, 3) := by decide +kernel
theorem dL_491 : decode code 491 = .ok (.pop, 1) := by decide +kernel
theorem dL_492 : decode code 492 = .ok (.goto 338, 3) := by decide +kernel
theorem dL_495 : decode code 495 = .ok (.aload_n 1, 1) := by decide +kernel
theorem dL_496 : decode code 496 = .ok (.aload_n 0, 1) := by decide +kernel
theorem dL_497 : decode code 497 = .ok (.iload_n 3, 1) := by decide +kernel
theorem dL_498 : decode code 498 = .ok (.iconst 1, 1) := by decide +kernel
theorem dL_499 : decode code 499 = .ok (.iadd, 1) := by decide +kernel
theorem dL_500 : decode code 500 = .ok (.iaload, 1) := by decide +kernel
theorem dL_501 : decode code 501 = .ok (.invokevirtual 61, 3) := by decide +kernel
theorem dL_504 : decode code 504 = .ok (.pop, 1) := by decide +kernel
theorem dL_505 : decode code 505 = .ok (.aload_n 2, 1) := by decide +kernel
theorem dL_506 : decode code 506 = .ok (.aload_n 0, 1) := by decide +kernel
theorem dL_507 : decode code 507 = .ok (.iload_n 3, 1) := by decide +kernel
theorem dL_508 : decode code 508 = .ok (.iconst 1, 1) := by decide +kernel
theorem dL_509 : decode code 509 = .ok (.iadd, 1) := by decide +kernel
theorem dL_510 : decode code 510 = .ok (.iaload, 1) := by decide +kernel
theorem dL_511 : decode code 511 = .ok (.invokevirtual 64, 3) := by decide +kernel
theorem dL_514 : decode code 514 = .ok (.pop, 1) := by decide +kernel
theorem dL_515 : decode code 515 = .ok (.goto 315, 3) := by decide +kernel
theorem dL_518 : decode code 518 = .ok (.aload_n 1, 1) := by decide +kernel
theorem dL_519 : decode code 519 = .ok (.aload_n 0, 1) := by decide +kernel
theorem dL_520 : decode code 520 = .ok (.iload_n 3, 1) := by decide +kernel
theorem dL_521 : decode code 521 = .ok (.iconst 1, 1) := by decide +kernel
theorem dL_522 : decode code 522 = .ok (.iadd, 1) := by decide +kernel
theorem dL_523 : decode code 523 = .ok (.iaload, 1) := by decide +kernel
theorem dL_524 : decode code 524 = .ok (.invokevirtual 65, 3) := by decide +kernel
theorem dL_527 : decode code 527 = .ok (.pop, 1) := by decide +kernel
theorem dL_528 : decode code 528 = .ok (.aload_n 2, 1) := by decide +kernel
theorem dL_529 : decode code 529 = .ok (.aload_n 0, 1) := by decide +kernel
theorem dL_530 : decode code 530 = .ok (.iload_n 3, 1) := by decide +kernel
theorem dL_531 : decode code 531 = .ok (.iconst 1, 1) := by decide +kernel
theorem dL_532 : decode code 532 = .ok (.iadd, 1) := by decide +kernel
theorem dL_533 : decode code 533 = .ok (.iaload, 1) := by decide +kernel
theorem dL_534 : decode code 534 = .ok (.invokevirtual 68, 3) := by decide +kernel
theorem dL_537 : decode code 537 = .ok (.pop, 1) := by decide +kernel
theorem dL_538 : decode code 538 = .ok (.goto 292, 3) := by decide +kernel
theorem dL_541 : decode code 541 = .ok (.aload_n 1, 1) := by decide +kernel
theorem dL_542 : decode code 542 = .ok (.aload_n 0, 1) := by decide +kernel
theorem dL_543 : decode code 543 = .ok (.iload_n 3, 1) := by decide +kernel
theorem dL_544 : decode code 544 = .ok (.iconst 1, 1) := by decide +kernel
theorem dL_545 : decode code 545 = .ok (.iadd, 1) := by decide +kernel
theorem dL_546 : decode code 546 = .ok (.iaload, 1) := by decide +kernel
theorem dL_547 : decode code 547 = .ok (.invokevirtual 69, 3) := by decide +kernel
theorem dL_550 : decode code 550 = .ok (.pop, 1) := by decide +kernel
theorem dL_551 : decode code 551 = .ok (.aload_n 2, 1) := by decide +kernel
theorem dL_552 : decode code 552 = .ok (.aload_n 0, 1) := by decide +kernel
theorem dL_553 : decode code 553 = .ok (.iload_n 3, 1) := by decide +kernel
theorem dL_554 : decode code 554 = .ok (.iconst 1, 1) := by decide +kernel
theorem dL_555 : decode code 555 = .ok (.iadd, 1) := by decide +kernel
theorem dL_556 : decode code 556 = .ok (.iaload, 1) := by decide +kernel
theorem dL_557 : decode code 557 = .ok (.invokevirtual 72, 3) := by decide +kernel
theorem dL_560 : decode code 560 = .ok (.pop, 1) := by decide +kernel
theorem dL_561 : decode code 561 = .ok (.goto 269, 3) := by decide +kernel
theorem dL_564 : decode code 564 = .ok (.aload_n 1, 1) := by decide +kernel
theorem dL_565 : decode code 565 = .ok (.aload_n 0, 1) := by decide +kernel
theorem dL_566 : decode code 566 = .ok (.iload_n 3, 1) := by decide +kernel
theorem dL_567 : decode code 567 = .ok (.iconst 1, 1) := by decide +kernel
theorem dL_568 : decode code 568 = .ok (.iadd, 1) := by decide +kernel
theorem dL_569 : decode code 569 = .ok (.iaload, 1) := by decide +kernel
theorem dL_570 : decode code 570 = .ok (.aload_n 0, 1) := by decide +kernel
theorem dL_571 : decode code 571 = .ok (.iload_n 3, 1) := by decide +kernel
theorem dL_572 : decode code 572 = .ok (.iconst 2, 1) := by decide +kernel
theorem dL_573 : decode code 573 = .ok (.iadd, 1) := by decide +kernel
theorem dL_574 : decode code 574 = .ok (.iaload, 1) := by decide +kernel
theorem dL_575 : decode code 575 = .ok (.invokevirtual 73, 3) := by decide +kernel
theorem dL_578 : decode code 578 = .ok (.pop, 1) := by decide +kernel
theorem dL_579 : decode code 579 = .ok (.aload_n 2, 1) := by decide +kernel
theorem dL_580 : decode code 580 = .ok (.aload_n 0, 1) := by decide +kernel
theorem dL_581 : decode code 581 = .ok (.iload_n 3, 1) := by decide +kernel
theorem dL_582 : decode code 582 = .ok (.iconst 1, 1) := by decide +kernel
theorem dL_583 : decode code 583 = .ok (.iadd, 1) := by decide +kernel
theorem dL_584 : decode code 584 = .ok (.iaload, 1) := by decide +kernel
theorem dL_585 : decode code 585 = .ok (.aload_n 0, 1) := by decide +kernel
theorem dL_586 : decode code 586 = .ok (.iload_n 3, 1) := by decide +kernel
theorem dL_587 : decode code 587 = .ok (.iconst 2, 1) := by decide +kernel
theorem dL_588 : decode code 588 = .ok (.iadd, 1) := by decide +kernel
theorem dL_589 : decode code 589 = .ok (.iaload, 1) := by decide +kernel
theorem dL_590 : decode code 590 = .ok (.invokevirtual 76, 3) := by decide +kernel
theorem dL_593 : decode code 593 = .ok (.pop, 1) := by decide +kernel
theorem dL_594 : decode code 594 = .ok (.goto 236, 3) := by decide +kernel
theorem dL_597 : decode code 597 = .ok (.aload_n 1, 1) := by decide +kernel
theorem dL_598 : decode code 598 = .ok (.aload_n 0, 1) := by decide +kernel
theorem dL_599 : decode code 599 = .ok (.iload_n 3, 1) := by decide +kernel
theorem dL_600 : decode code 600 = .ok (.iconst 1, 1) := by decide +kernel
theorem dL_601 : decode code 601 = .ok (.iadd, 1) := by decide +kernel
theorem dL_602 : decode code 602 = .ok (.iaload, 1) := by decide +kernel
theorem dL_603 : decode code 603 = .ok (.invokevirtual 77, 3) := by decide +kernel
theorem dL_606 : decode code 606 = .ok (.pop, 1) := by decide +kernel
theorem dL_607 : decode code 607 = .ok (.aload_n 2, 1) := by decide +kernel
theorem dL_608 : decode code 608 = .ok (.aload_n 0, 1) := by decide +kernel
theorem dL_609 : decode code 609 = .ok (.iload_n 3, 1) := by decide +kernel
theorem dL_610 : decode code 610 = .ok (.iconst 1, 1) := by decide +kernel
theorem dL_611 : decode code 611 = .ok (.iadd, 1) := by decide +kernel
theorem dL_612 : decode code 612 = .ok (.iaload, 1) := by decide +kernel
theorem dL_613 : decode code 613 = .ok (.invokevirtual 80, 3) := by decide +kernel
theorem dL_616 : decode code 616 = .ok (.pop, 1) := by decide +kernel
theorem dL_617 : decode code 617 = .ok (.goto 213, 3) := by decide +kernel
theorem dL_620 : decode code 620 = .ok (.aload_n 1, 1) := by decide +kernel
theorem dL_621 : decode code 621 = .ok (.invokevirtual 81, 3) := by decide +kernel
theorem dL_624 : decode code 624 = .ok (.pop, 1) := by decide +kernel
theorem dL_625 : decode code 625 = .ok (.aload_n 2, 1) := by decide +kernel
theorem dL_626 : decode code 626 = .ok (.invokevirtual 85, 3) := by decide +kernel
theorem dL_629 : decode code 629 = .ok (.pop, 1) := by decide +kernel
theorem dL_630 : decode code 630 = .ok (.goto 200, 3) := by decide +kernel
theorem dL_633 : decode code 633 = .ok (.aload_n 1, 1) := by decide +kernel
theorem dL_634 : decode code 634 = .ok (.invokevirtual 86, 3) := by decide +kernel
theorem dL_637 : decode code 637 = .ok (.pop, 1) := by decide +kernel
theorem dL_638 : decode code 638 = .ok (.aload_n 2, 1) := by decide +kernel
theorem dL_639 : decode code 639 = .ok (.invokevirtual 89, 3) := by decide +kernel
theorem dL_642 : decode code 642 = .ok (.pop, 1) := by decide +kernel
theorem dL_643 : decode code 643 = .ok (.goto 187, 3) := by decide +kernel
theorem dL_646 : decode code 646 = .ok (.aload_n 1, 1) := by decide +kernel
theorem dL_647 : decode code 647 = .ok (.aload_n 0, 1) := by decide +kernel
theorem dL_648 : decode code 648 = .ok (.iload_n 3, 1) := by decide +kernel
theorem dL_649 : decode code 649 = .ok (.iconst 1, 1) := by decide +kernel
theorem dL_650 : decode code 650 = .ok (.iadd, 1) := by decide +kernel
theorem dL_651 : decode code 651 = .ok (.iaload, 1) := by decide +kernel
theorem dL_652 : decode code 652 = .ok (.aload_n 0, 1) := by decide +kernel
theorem dL_653 : decode code 653 = .ok (.iload_n 3, 1) := by decide +kernel
theorem dL_654 : decode code 654 = .ok (.iconst 2, 1) := by decide +kernel
theorem dL_655 : decode code 655 = .ok (.iadd, 1) := by decide +kernel
theorem dL_656 : decode code 656 = .ok (.iaload, 1) := by decide +kernel
theorem dL_657 : decode code 657 = .ok (.invokevirtual 90, 3) := by decide +kernel
theorem dL_660 : decode code 660 = .ok (.pop, 1) := by decide +kernel
theorem dL_661 : decode code 661 = .ok (.aload_n 2, 1) := by decide +kernel
theorem dL_662 : decode code 662 = .ok (.aload_n 0, 1) := by decide +kernel
theorem dL_663 : decode code 663 = .ok (.iload_n 3, 1) := by decide +kernel
theorem dL_664 : decode code 664 = .ok (.iconst 1, 1) := by decide +kernel
theorem dL_665 : decode code 665 = .ok (.iadd, 1) := by decide +kernel
theorem dL_666 : decode code 666 = .ok (.iaload, 1) := by decide +kernel
theorem dL_667 : decode code 667 = .ok (.aload_n 0, 1) := by decide +kernel
theorem dL_668 : decode code 668 = .ok (.iload_n 3, 1) := by decide +kernel
theorem dL_669 : decode code 669 = .ok (.iconst 2, 1) := by decide +kernel
theorem dL_670 : decode code 670 = .ok (.iadd, 1) := by decide +kernel
theorem dL_671 : decode code 671 = .ok (.iaload, 1) := by decide +kernel
theorem dL_672 : decode code 672 = .ok (.invokevirtual 93, 3) := by decide +kernel
theorem dL_675 : decode code 675 = .ok (.pop, 1) := by decide +kernel
theorem dL_676 : decode code 676 = .ok (.goto 154, 3) := by decide +kernel
theorem dL_679 : decode code 679 = .ok (.aload_n 1, 1) := by decide +kernel
theorem dL_680 : decode code 680 = .ok (.aload_n 0, 1) := by decide +kernel
theorem dL_681 : decode code 681 = .ok (.iload_n 3, 1) := by decide +kernel
theorem dL_682 : decode code 682 = .ok (.iconst 1, 1) := by decide +kernel
theorem dL_683 : decode code 683 = .ok (.iadd, 1) := by decide +kernel
theorem dL_684 : decode code 684 = .ok (.iaload, 1) := by decide +kernel
theorem dL_685 : decode code 685 = .ok (.aload_n 0, 1) := by decide +kernel
theorem dL_686 : decode code 686 = .ok (.iload_n 3, 1) := by decide +kernel
theorem dL_687 : decode code 687 = .ok (.iconst 2, 1) := by decide +kernel
theorem dL_688 : decode code 688 = .ok (.iadd, 1) := by decide +kernel
theorem dL_689 : decode code 689 = .ok (.iaload, 1) := by decide +kernel
theorem dL_690 : decode code 690 = .ok (.aload_n 0, 1) := by decide +kernel
theorem dL_691 : decode code 691 = .ok (.iload_n 3, 1) := by decide +kernel
theorem dL_692 : decode code 692 = .ok (.iconst 3, 1) := by decide +kernel
theorem dL_693 : decode code 693 = .ok (.iadd, 1) := by decide +kernel
theorem dL_694 : decode code 694 = .ok (.iaload, 1) := by decide +kernel
theorem dL_695 : decode code 695 = .ok (.invokevirtual 94, 3) := by decide +kernel
theorem dL_698 : decode code 698 = .ok (.pop, 1) := by decide +kernel
theorem dL_699 : decode code 699 = .ok (.aload_n 2, 1) := by decide +kernel
theorem dL_700 : decode code 700 = .ok (.aload_n 0, 1) := by decide +kernel
theorem dL_701 : decode code 701 = .ok (.iload_n 3, 1) := by decide +kernel
theorem dL_702 : decode code 702 = .ok (.iconst 1, 1) := by decide +kernel
theorem dL_703 : decode code 703 = .ok (.iadd, 1) := by decide +kernel
theorem dL_704 : decode code 704 = .ok (.iaload, 1) := by decide +kernel
theorem dL_705 : decode code 705 = .ok (.aload_n 0, 1) := by decide +kernel
theorem dL_706 : decode code 706 = .ok (.iload_n 3, 1) := by decide +kernel
theorem dL_707 : decode code 707 = .ok (.iconst 2, 1) := by decide +kernel
theorem dL_708 : decode code 708 = .ok (.iadd, 1) := by decide +kernel
theorem dL_709 : decode code 709 = .ok (.iaload, 1) := by decide +kernel
theorem dL_710 : decode code 710 = .ok (.aload_n 0, 1) := by decide +kernel
theorem dL_711 : decode code 711 = .ok (.iload_n 3, 1) := by decide +kernel
theorem dL_712 : decode code 712 = .ok (.iconst 3, 1) := by decide +kernel
theorem dL_713 : decode code 713 = .ok (.iadd, 1) := by decide +kernel
theorem dL_714 : decode code 714 = .ok (.iaload, 1) := by decide +kernel
theorem dL_715 : decode code 715 = .ok (.invokevirtual 98, 3) := by decide +kernel
theorem dL_718 : decode code 718 = .ok (.pop, 1) := by decide +kernel
theorem dL_719 : decode code 719 = .ok (.goto 111, 3) := by decide +kernel
theorem dL_722 : decode code 722 = .ok (.aload_n 1, 1) := by decide +kernel
theorem dL_723 : decode code 723 = .ok (.invokevirtual 99, 3) := by decide +kernel
theorem dL_726 : decode code 726 = .ok (.pop, 1) := by decide +kernel
theorem dL_727 : decode code 727 = .ok (.aload_n 2, 1) := by decide +kernel
theorem dL_728 : decode code 728 = .ok (.invokevirtual 102, 3) := by decide +kernel
theorem dL_731 : decode code 731 = .ok (.pop, 1) := by decide +kernel
theorem dL_732 : decode code 732 = .ok (.goto 98, 3) := by decide +kernel
theorem dL_735 : decode code 735 = .ok (.aload_n 1, 1) := by decide +kernel
theorem dL_736 : decode code 736 = .ok (.aload_n 0, 1) := by decide +kernel
theorem dL_737 : decode code 737 = .ok (.iload_n 3, 1) := by decide +kernel
theorem dL_738 : decode code 738 = .ok (.iconst 1, 1) := by decide +kernel
theorem dL_739 : decode code 739 = .ok (.iadd, 1) := by decide +kernel
theorem dL_740 : decode code 740 = .ok (.iaload, 1) := by decide +kernel
theorem dL_741 : decode code 741 = .ok (.invokevirtual 103, 3) := by decide +kernel
theorem dL_744 : decode code 744 = .ok (.pop, 1) := by decide +kernel
theorem dL_745 : decode code 745 = .ok (.aload_n 2, 1) := by decide +kernel
theorem dL_746 : decode code 746 = .ok (.aload_n 0, 1) := by decide +kernel
theorem dL_747 : decode code 747 = .ok (.iload_n 3, 1) := by decide +kernel
theorem dL_748 : decode code 748 = .ok (.iconst 1, 1) := by decide +kernel
theorem dL_749 : decode code 749 = .ok (.iadd, 1) := by decide +kernel
theorem dL_750 : decode code 750 = .ok (.iaload, 1) := by decide +kernel
theorem dL_751 : decode code 751 = .ok (.invokevirtual 107, 3) := by decide +kernel
theorem dL_754 : decode code 754 = .ok (.pop, 1) := by decide +kernel
theorem dL_755 : decode code 755 = .ok (.goto 75, 3) := by decide +kernel
theorem dL_758 : decode code 758 = .ok (.aload_n 1, 1) := by decide +kernel
theorem dL_759 : decode code 759 = .ok (.invokevirtual 108, 3) := by decide +kernel
theorem dL_762 : decode code 762 = .ok (.pop, 1) := by decide +kernel
theorem dL_763 : decode code 763 = .ok (.aload_n 2, 1) := by decide +kernel
theorem dL_764 : decode code 764 = .ok (.invokevirtual 111, 3) := by decide +kernel
theorem dL_767 : decode code 767 = .ok (.pop, 1) := by decide +kernel
theorem dL_768 : decode code 768 = .ok (.goto 62, 3) := by decide +kernel
theorem dL_771 : decode code 771 = .ok (.aload_n 1, 1) := by decide +kernel
theorem dL_772 : decode code 772 = .ok (.invokevirtual 112, 3) := by decide +kernel
theorem dL_775 : decode code 775 = .ok (.pop, 1) := by decide +kernel
theorem dL_776 : decode code 776 = .ok (.aload_n 2, 1) := by decide +kernel
theorem dL_777 : decode code 777 = .ok (.invokevirtual 116, 3) := by decide +kernel
theorem dL_780 : decode code 780 = .ok (.pop, 1) := by decide +kernel
theorem dL_781 : decode code 781 = .ok (.goto 49, 3) := by decide +kernel
theorem dL_784 : decode code 784 = .ok (.aload_n 1, 1) := by decide +kernel
theorem dL_785 : decode code 785 = .ok (.aload_n 0, 1) := by decide +kernel
theorem dL_786 : decode code 786 = .ok (.iload_n 3, 1) := by decide +kernel
theorem dL_787 : decode code 787 = .ok (.iconst 1, 1) := by decide +kernel
theorem dL_788 : decode code 788 = .ok (.iadd, 1) := by decide +kernel
theorem dL_789 : decode code 789 = .ok (.iaload, 1) := by decide +kernel
theorem dL_790 : decode code 790 = .ok (.invokevirtual 117, 3) := by decide +kernel
theorem dL_793 : decode code 793 = .ok (.pop, 1) := by decide +kernel
theorem dL_794 : decode code 794 = .ok (.aload_n 2, 1) := by decide +kernel
theorem dL_795 : decode code 795 = .ok (.aload_n 0, 1) := by decide +kernel
theorem dL_796 : decode code 796 = .ok (.iload_n 3, 1) := by decide +kernel
theorem dL_797 : decode code 797 = .ok (.iconst 1, 1) := by decide +kernel
theorem dL_798 : decode code 798 = .ok (.iadd, 1) := by decide +kernel
theorem dL_799 : decode code 799 = .ok (.iaload, 1) := by decide +kernel
theorem dL_800 : decode code 800 = .ok (.invokevirtual 120, 3) := by decide +kernel
theorem dL_803 : decode code 803 = .ok (.pop, 1) := by decide +kernel
theorem dL_804 : decode code 804 = .ok (.goto 26, 3) := by decide +kernel
theorem dL_807 : decode code 807 = .ok (.aload_n 1, 1) := by decide +kernel
theorem dL_808 : decode code 808 = .ok (.aload_n 0, 1) := by decide +kernel
theorem dL_809 : decode code 809 = .ok (.iload_n 3, 1) := by decide +kernel
theorem dL_810 : decode code 810 = .ok (.iconst 1, 1) := by decide +kernel
theorem dL_811 : decode code 811 = .ok (.iadd, 1) := by decide +kernel
theorem dL_812 : decode code 812 = .ok (.iaload, 1) := by decide +kernel
theorem dL_813 : decode code 813 = .ok (.invokevirtual 121, 3) := by decide +kernel
theorem dL_816 : decode code 816 = .ok (.aload_n 2, 1) := by decide +kernel
theorem dL_817 : decode code 817 = .ok (.aload_n 0, 1) := by decide +kernel
theorem dL_818 : decode code 818 = .ok (.iload_n 3, 1) := by decide +kernel
theorem dL_819 : decode code 819 = .ok (.iconst 1, 1) := by decide +kernel
theorem dL_820 : decode code 820 = .ok (.iadd, 1) := by decide +kernel
theorem dL_821 : decode code 821 = .ok (.iaload, 1) := by decide +kernel
theorem dL_822 : decode code 822 = .ok (.invokevirtual 124, 3) := by decide +kernel
theorem dL_825 : decode code 825 = .ok (.if_icmp .eq 5, 3) := by decide +kernel
theorem dL_830 : decode code 830 = .ok (.iinc 3 6, 3) := by decide +kernel
theorem dL_833 : decode code 833 = .ok (.goto (-815), 3) := by decide +kernel
theorem dL_836 : decode code 836 = .ok (.iconst 1, 1) := by decide +kernel
theorem dL_837 : decode code 837 = .ok (.ireturn, 1) := by decide +kernel
