section ENT
variable {p : Program} {l : Launch} {e : Env} {s : State} {m : MethodId} {args : Array Value} {below : List Frame} {meth : Method} {c : Code} {Q : State → Prop} {D : va_G} {tys : List (ClassId × FieldType)} {aK aV b0 cs sl b L : Nat} {xs : Nat → Int32} {ls : Array Slot} {ad : Nat → Nat} {H : Heap} {locs : List Loc}
theorem lc_0 (C : en_cx p s m args meth c code 4 13 D tys aK aV b0) (hX : va_X b L xs s s.heap) (hbl : b < s.heap.size) (hbA : ¬ b0 ≤ b) (hL6 : 6 ≤ L) (hL : L < 2 ^ 31) (hl : lv_has ls 4 [(0, .ref b), (1, .ref (ad 0)), (2, .ref (ad 84)), (3, .int 0)]) (hcs : cs ≤ 600000) (hsl : sl ≤ 7302250) (hW : en_W D tys (fun q => b0 ≤ q) tW_39 ad H) (hS : va_S (fun q => b0 ≤ q) s.heap H locs) (k : lw_go p l e s m args below meth c Q D tys b0 ls cs sl 830) : W p l e room_1 s m args below meth c H locs cs sl Q (F0 m 152 ls []) := by
  obtain ⟨κa, κb, box, h1, h2, h3, h4⟩ := pr_register l (xs 1) (xs 2)
  refine lv_aload_n C.1 C.2.1 dL_152 rfl (lv_at hl 1 rfl) ?_
  refine lw_arg C.1 C.2.1 hX hbl hbA (lv_at hl 0 rfl) (lv_at hl 3 rfl) (k := 1) rfl (by omega) hL hS dL_153 dL_154 dL_155 dL_156 dL_157 ?_
  refine lw_arg C.1 C.2.1 hX hbl hbA (lv_at hl 0 rfl) (lv_at hl 3 rfl) (k := 2) rfl (by omega) hL hS dL_158 dL_159 dL_160 dL_161 dL_162 ?_
  refine lw_two C (j0 := 0) (j1 := 84) (ia := 13) (ib := 17) (n := 2) (As := [.int (xs 1), .int (xs 2)]) (pa := 163) (pb := 177) (pe := 830) h1 h2 h3 (h4 _ _) hl.1 hcs hsl dL_163 dL_177 dL_180 (by decide) hW hS (fun H locs x hS kk => ?_) k
  refine lv_aload_n C.1 C.2.1 dL_166 rfl (lv_at hl 2 rfl) ?_
  refine lw_arg C.1 C.2.1 hX hbl hbA (lv_at hl 0 rfl) (lv_at hl 3 rfl) (k := 1) rfl (by omega) hL hS dL_167 dL_168 dL_169 dL_170 dL_171 ?_
  refine lw_arg C.1 C.2.1 hX hbl hbA (lv_at hl 0 rfl) (lv_at hl 3 rfl) (k := 2) rfl (by omega) hL hS dL_172 dL_173 dL_174 dL_175 dL_176 ?_
  exact kk
theorem lc_1 (C : en_cx p s m args meth c code 4 13 D tys aK aV b0) (hX : va_X b L xs s s.heap) (hbl : b < s.heap.size) (hbA : ¬ b0 ≤ b) (hL6 : 6 ≤ L) (hL : L < 2 ^ 31) (hl : lv_has ls 4 [(0, .ref b), (1, .ref (ad 0)), (2, .ref (ad 84)), (3, .int 0)]) (hcs : cs ≤ 600000) (hsl : sl ≤ 7302250) (hW : en_W D tys (fun q => b0 ≤ q) tW_39 ad H) (hS : va_S (fun q => b0 ≤ q) s.heap H locs) (k : lw_go p l e s m args below meth c Q D tys b0 ls cs sl 830) : W p l e room_1 s m args below meth c H locs cs sl Q (F0 m 185 ls []) := by
  obtain ⟨κa, κb, box, h1, h2, h3, h4⟩ := pr_poke l (xs 1) (xs 2)
  refine lv_aload_n C.1 C.2.1 dL_185 rfl (lv_at hl 1 rfl) ?_
  refine lw_arg C.1 C.2.1 hX hbl hbA (lv_at hl 0 rfl) (lv_at hl 3 rfl) (k := 1) rfl (by omega) hL hS dL_186 dL_187 dL_188 dL_189 dL_190 ?_
  refine lw_arg C.1 C.2.1 hX hbl hbA (lv_at hl 0 rfl) (lv_at hl 3 rfl) (k := 2) rfl (by omega) hL hS dL_191 dL_192 dL_193 dL_194 dL_195 ?_
  refine lw_two C (j0 := 0) (j1 := 84) (ia := 18) (ib := 21) (n := 2) (As := [.int (xs 1), .int (xs 2)]) (pa := 196) (pb := 210) (pe := 830) h1 h2 h3 (h4 _ _) hl.1 hcs hsl dL_196 dL_210 dL_213 (by decide) hW hS (fun H locs x hS kk => ?_) k
  refine lv_aload_n C.1 C.2.1 dL_199 rfl (lv_at hl 2 rfl) ?_
  refine lw_arg C.1 C.2.1 hX hbl hbA (lv_at hl 0 rfl) (lv_at hl 3 rfl) (k := 1) rfl (by omega) hL hS dL_200 dL_201 dL_202 dL_203 dL_204 ?_
  refine lw_arg C.1 C.2.1 hX hbl hbA (lv_at hl 0 rfl) (lv_at hl 3 rfl) (k := 2) rfl (by omega) hL hS dL_205 dL_206 dL_207 dL_208 dL_209 ?_
  exact kk
theorem lc_2 (C : en_cx p s m args meth c code 4 13 D tys aK aV b0) (hX : va_X b L xs s s.heap) (hbl : b < s.heap.size) (hbA : ¬ b0 ≤ b) (hL6 : 6 ≤ L) (hL : L < 2 ^ 31) (hl : lv_has ls 4 [(0, .ref b), (1, .ref (ad 0)), (2, .ref (ad 84)), (3, .int 0)]) (hcs : cs ≤ 600000) (hsl : sl ≤ 7302250) (hW : en_W D tys (fun q => b0 ≤ q) tW_39 ad H) (hS : va_S (fun q => b0 ≤ q) s.heap H locs) (k : lw_go p l e s m args below meth c Q D tys b0 ls cs sl 830) : W p l e room_1 s m args below meth c H locs cs sl Q (F0 m 218 ls []) := by
  obtain ⟨κa, κb, box, h1, h2, h3, h4⟩ := pr_feed l (xs 1) (xs 2) (xs 3) (xs 4) (xs 5)
  refine lv_aload_n C.1 C.2.1 dL_218 rfl (lv_at hl 1 rfl) ?_
  refine lw_arg C.1 C.2.1 hX hbl hbA (lv_at hl 0 rfl) (lv_at hl 3 rfl) (k := 1) rfl (by omega) hL hS dL_219 dL_220 dL_221 dL_222 dL_223 ?_
  refine lw_arg C.1 C.2.1 hX hbl hbA (lv_at hl 0 rfl) (lv_at hl 3 rfl) (k := 2) rfl (by omega) hL hS dL_224 dL_225 dL_226 dL_227 dL_228 ?_
  refine lw_arg C.1 C.2.1 hX hbl hbA (lv_at hl 0 rfl) (lv_at hl 3 rfl) (k := 3) rfl (by omega) hL hS dL_229 dL_230 dL_231 dL_232 dL_233 ?_
  refine lw_arg C.1 C.2.1 hX hbl hbA (lv_at hl 0 rfl) (lv_at hl 3 rfl) (k := 4) rfl (by omega) hL hS dL_234 dL_235 dL_236 dL_237 dL_238 ?_
  refine lw_arg C.1 C.2.1 hX hbl hbA (lv_at hl 0 rfl) (lv_at hl 3 rfl) (k := 5) rfl (by omega) hL hS dL_239 dL_240 dL_241 dL_242 dL_243 ?_
  refine lw_two C (j0 := 0) (j1 := 84) (ia := 22) (ib := 26) (n := 5) (As := [.int (xs 1), .int (xs 2), .int (xs 3), .int (xs 4), .int (xs 5)]) (pa := 244) (pb := 273) (pe := 830) h1 h2 h3 (h4 _ _) hl.1 hcs hsl dL_244 dL_273 dL_276 (by decide) hW hS (fun H locs x hS kk => ?_) k
  refine lv_aload_n C.1 C.2.1 dL_247 rfl (lv_at hl 2 rfl) ?_
  refine lw_arg C.1 C.2.1 hX hbl hbA (lv_at hl 0 rfl) (lv_at hl 3 rfl) (k := 1) rfl (by omega) hL hS dL_248 dL_249 dL_250 dL_251 dL_252 ?_
  refine lw_arg C.1 C.2.1 hX hbl hbA (lv_at hl 0 rfl) (lv_at hl 3 rfl) (k := 2) rfl (by omega) hL hS dL_253 dL_254 dL_255 dL_256 dL_257 ?_
  refine lw_arg C.1 C.2.1 hX hbl hbA (lv_at hl 0 rfl) (lv_at hl 3 rfl) (k := 3) rfl (by omega) hL hS dL_258 dL_259 dL_260 dL_261 dL_262 ?_
  refine lw_arg C.1 C.2.1 hX hbl hbA (lv_at hl 0 rfl) (lv_at hl 3 rfl) (k := 4) rfl (by omega) hL hS dL_263 dL_264 dL_265 dL_266 dL_267 ?_
  refine lw_arg C.1 C.2.1 hX hbl hbA (lv_at hl 0 rfl) (lv_at hl 3 rfl) (k := 5) rfl (by omega) hL hS dL_268 dL_269 dL_270 dL_271 dL_272 ?_
  exact kk
theorem lc_3 (C : en_cx p s m args meth c code 4 13 D tys aK aV b0) (hX : va_X b L xs s s.heap) (hbl : b < s.heap.size) (hbA : ¬ b0 ≤ b) (hL6 : 6 ≤ L) (hL : L < 2 ^ 31) (hl : lv_has ls 4 [(0, .ref b), (1, .ref (ad 0)), (2, .ref (ad 84)), (3, .int 0)]) (hcs : cs ≤ 600000) (hsl : sl ≤ 7302250) (hW : en_W D tys (fun q => b0 ≤ q) tW_39 ad H) (hS : va_S (fun q => b0 ≤ q) s.heap H locs) (k : lw_go p l e s m args below meth c Q D tys b0 ls cs sl 830) : W p l e room_1 s m args below meth c H locs cs sl Q (F0 m 281 ls []) := by
  obtain ⟨κa, κb, box, h1, h2, h3, h4⟩ := pr_law l (xs 1)
  refine lv_aload_n C.1 C.2.1 dL_281 rfl (lv_at hl 1 rfl) ?_
  refine lw_arg C.1 C.2.1 hX hbl hbA (lv_at hl 0 rfl) (lv_at hl 3 rfl) (k := 1) rfl (by omega) hL hS dL_282 dL_283 dL_284 dL_285 dL_286 ?_
  refine lw_two C (j0 := 0) (j1 := 84) (ia := 27) (ib := 31) (n := 1) (As := [.int (xs 1)]) (pa := 287) (pb := 296) (pe := 830) h1 h2 h3 (h4 _ _) hl.1 hcs hsl dL_287 dL_296 dL_299 (by decide) hW hS (fun H locs x hS kk => ?_) k
  refine lv_aload_n C.1 C.2.1 dL_290 rfl (lv_at hl 2 rfl) ?_
  refine lw_arg C.1 C.2.1 hX hbl hbA (lv_at hl 0 rfl) (lv_at hl 3 rfl) (k := 1) rfl (by omega) hL hS dL_291 dL_292 dL_293 dL_294 dL_295 ?_
  exact kk
theorem lc_4 (C : en_cx p s m args meth c code 4 13 D tys aK aV b0) (hX : va_X b L xs s s.heap) (hbl : b < s.heap.size) (hbA : ¬ b0 ≤ b) (hL6 : 6 ≤ L) (hL : L < 2 ^ 31) (hl : lv_has ls 4 [(0, .ref b), (1, .ref (ad 0)), (2, .ref (ad 84)), (3, .int 0)]) (hcs : cs ≤ 600000) (hsl : sl ≤ 7302250) (hW : en_W D tys (fun q => b0 ≤ q) tW_39 ad H) (hS : va_S (fun q => b0 ≤ q) s.heap H locs) (k : lw_go p l e s m args below meth c Q D tys b0 ls cs sl 830) : W p l e room_1 s m args below meth c H locs cs sl Q (F0 m 304 ls []) := by
  obtain ⟨κa, κb, box, h1, h2, h3, h4⟩ := pr_program l (xs 1)
  refine lv_aload_n C.1 C.2.1 dL_304 rfl (lv_at hl 1 rfl) ?_
  refine lw_arg C.1 C.2.1 hX hbl hbA (lv_at hl 0 rfl) (lv_at hl 3 rfl) (k := 1) rfl (by omega) hL hS dL_305 dL_306 dL_307 dL_308 dL_309 ?_
  refine lw_two C (j0 := 0) (j1 := 84) (ia := 32) (ib := 35) (n := 1) (As := [.int (xs 1)]) (pa := 310) (pb := 319) (pe := 830) h1 h2 h3 (h4 _ _) hl.1 hcs hsl dL_310 dL_319 dL_322 (by decide) hW hS (fun H locs x hS kk => ?_) k
  refine lv_aload_n C.1 C.2.1 dL_313 rfl (lv_at hl 2 rfl) ?_
  refine lw_arg C.1 C.2.1 hX hbl hbA (lv_at hl 0 rfl) (lv_at hl 3 rfl) (k := 1) rfl (by omega) hL hS dL_314 dL_315 dL_316 dL_317 dL_318 ?_
  exact kk
theorem lc_5 (C : en_cx p s m args meth c code 4 13 D tys aK aV b0) (hX : va_X b L xs s s.heap) (hbl : b < s.heap.size) (hbA : ¬ b0 ≤ b) (hL6 : 6 ≤ L) (hL : L < 2 ^ 31) (hl : lv_has ls 4 [(0, .ref b), (1, .ref (ad 0)), (2, .ref (ad 84)), (3, .int 0)]) (hcs : cs ≤ 600000) (hsl : sl ≤ 7302250) (hW : en_W D tys (fun q => b0 ≤ q) tW_39 ad H) (hS : va_S (fun q => b0 ≤ q) s.heap H locs) (k : lw_go p l e s m args below meth c Q D tys b0 ls cs sl 830) : W p l e room_1 s m args below meth c H locs cs sl Q (F0 m 327 ls []) := by
  obtain ⟨κa, κb, box, h1, h2, h3, h4⟩ := pr_run l (xs 1)
  refine lv_aload_n C.1 C.2.1 dL_327 rfl (lv_at hl 1 rfl) ?_
  refine lw_arg C.1 C.2.1 hX hbl hbA (lv_at hl 0 rfl) (lv_at hl 3 rfl) (k := 1) rfl (by omega) hL hS dL_328 dL_329 dL_330 dL_331 dL_332 ?_
  refine lw_two C (j0 := 0) (j1 := 84) (ia := 36) (ib := 39) (n := 1) (As := [.int (xs 1)]) (pa := 333) (pb := 342) (pe := 830) h1 h2 h3 (h4 _ _) hl.1 hcs hsl dL_333 dL_342 dL_345 (by decide) hW hS (fun H locs x hS kk => ?_) k
  refine lv_aload_n C.1 C.2.1 dL_336 rfl (lv_at hl 2 rfl) ?_
  refine lw_arg C.1 C.2.1 hX hbl hbA (lv_at hl 0 rfl) (lv_at hl 3 rfl) (k := 1) rfl (by omega) hL hS dL_337 dL_338 dL_339 dL_340 dL_341 ?_
  exact kk
theorem lc_6 (C : en_cx p s m args meth c code 4 13 D tys aK aV b0) (hX : va_X b L xs s s.heap) (hbl : b < s.heap.size) (hbA : ¬ b0 ≤ b) (hL6 : 6 ≤ L) (hL : L < 2 ^ 31) (hl : lv_has ls 4 [(0, .ref b), (1, .ref (ad 0)), (2, .ref (ad 84)), (3, .int 0)]) (hcs : cs ≤ 600000) (hsl : sl ≤ 7302250) (hW : en_W D tys (fun q => b0 ≤ q) tW_39 ad H) (hS : va_S (fun q => b0 ≤ q) s.heap H locs) (k : lw_go p l e s m args below meth c Q D tys b0 ls cs sl 830) : W p l e room_1 s m args below meth c H locs cs sl Q (F0 m 350 ls []) := by
  obtain ⟨κa, κb, box, h1, h2, h3, h4⟩ := pr_tried l (xs 1) (xs 2)
  refine lv_aload_n C.1 C.2.1 dL_350 rfl (lv_at hl 1 rfl) ?_
  refine lw_arg C.1 C.2.1 hX hbl hbA (lv_at hl 0 rfl) (lv_at hl 3 rfl) (k := 1) rfl (by omega) hL hS dL_351 dL_352 dL_353 dL_354 dL_355 ?_
  refine lw_arg C.1 C.2.1 hX hbl hbA (lv_at hl 0 rfl) (lv_at hl 3 rfl) (k := 2) rfl (by omega) hL hS dL_356 dL_357 dL_358 dL_359 dL_360 ?_
  refine lw_two C (j0 := 0) (j1 := 84) (ia := 40) (ib := 44) (n := 2) (As := [.int (xs 1), .int (xs 2)]) (pa := 361) (pb := 375) (pe := 830) h1 h2 h3 (h4 _ _) hl.1 hcs hsl dL_361 dL_375 dL_378 (by decide) hW hS (fun H locs x hS kk => ?_) k
  refine lv_aload_n C.1 C.2.1 dL_364 rfl (lv_at hl 2 rfl) ?_
  refine lw_arg C.1 C.2.1 hX hbl hbA (lv_at hl 0 rfl) (lv_at hl 3 rfl) (k := 1) rfl (by omega) hL hS dL_365 dL_366 dL_367 dL_368 dL_369 ?_
  refine lw_arg C.1 C.2.1 hX hbl hbA (lv_at hl 0 rfl) (lv_at hl 3 rfl) (k := 2) rfl (by omega) hL hS dL_370 dL_371 dL_372 dL_373 dL_374 ?_
  exact kk
theorem lc_7 (C : en_cx p s m args meth c code 4 13 D tys aK aV b0) (hX : va_X b L xs s s.heap) (hbl : b < s.heap.size) (hbA : ¬ b0 ≤ b) (hL6 : 6 ≤ L) (hL : L < 2 ^ 31) (hl : lv_has ls 4 [(0, .ref b), (1, .ref (ad 0)), (2, .ref (ad 84)), (3, .int 0)]) (hcs : cs ≤ 600000) (hsl : sl ≤ 7302250) (hW : en_W D tys (fun q => b0 ≤ q) tW_39 ad H) (hS : va_S (fun q => b0 ≤ q) s.heap H locs) (k : lw_go p l e s m args below meth c Q D tys b0 ls cs sl 830) : W p l e room_1 s m args below meth c H locs cs sl Q (F0 m 383 ls []) := by
  obtain ⟨κa, κb, box, h1, h2, h3, h4⟩ := pr_lastRun l (xs 1)
  refine lv_aload_n C.1 C.2.1 dL_383 rfl (lv_at hl 1 rfl) ?_
  refine lw_arg C.1 C.2.1 hX hbl hbA (lv_at hl 0 rfl) (lv_at hl 3 rfl) (k := 1) rfl (by omega) hL hS dL_384 dL_385 dL_386 dL_387 dL_388 ?_
  refine lw_two C (j0 := 0) (j1 := 84) (ia := 45) (ib := 48) (n := 1) (As := [.int (xs 1)]) (pa := 389) (pb := 398) (pe := 830) h1 h2 h3 (h4 _ _) hl.1 hcs hsl dL_389 dL_398 dL_401 (by decide) hW hS (fun H locs x hS kk => ?_) k
  refine lv_aload_n C.1 C.2.1 dL_392 rfl (lv_at hl 2 rfl) ?_
  refine lw_arg C.1 C.2.1 hX hbl hbA (lv_at hl 0 rfl) (lv_at hl 3 rfl) (k := 1) rfl (by omega) hL hS dL_393 dL_394 dL_395 dL_396 dL_397 ?_
  exact kk
theorem lc_8 (C : en_cx p s m args meth c code 4 13 D tys aK aV b0) (hX : va_X b L xs s s.heap) (hbl : b < s.heap.size) (hbA : ¬ b0 ≤ b) (hL6 : 6 ≤ L) (hL : L < 2 ^ 31) (hl : lv_has ls 4 [(0, .ref b), (1, .ref (ad 0)), (2, .ref (ad 84)), (3, .int 0)]) (hcs : cs ≤ 600000) (hsl : sl ≤ 7302250) (hW : en_W D tys (fun q => b0 ≤ q) tW_39 ad H) (hS : va_S (fun q => b0 ≤ q) s.heap H locs) (k : lw_go p l e s m args below meth c Q D tys b0 ls cs sl 830) : W p l e room_1 s m args below meth c H locs cs sl Q (F0 m 406 ls []) := by
  obtain ⟨κa, κb, box, h1, h2, h3, h4⟩ := pr_opIs l (xs 1) (xs 2)
  refine lv_aload_n C.1 C.2.1 dL_406 rfl (lv_at hl 1 rfl) ?_
  refine lw_arg C.1 C.2.1 hX hbl hbA (lv_at hl 0 rfl) (lv_at hl 3 rfl) (k := 1) rfl (by omega) hL hS dL_407 dL_408 dL_409 dL_410 dL_411 ?_
  refine lw_arg C.1 C.2.1 hX hbl hbA (lv_at hl 0 rfl) (lv_at hl 3 rfl) (k := 2) rfl (by omega) hL hS dL_412 dL_413 dL_414 dL_415 dL_416 ?_
  refine lw_two C (j0 := 0) (j1 := 84) (ia := 49) (ib := 52) (n := 2) (As := [.int (xs 1), .int (xs 2)]) (pa := 417) (pb := 431) (pe := 830) h1 h2 h3 (h4 _ _) hl.1 hcs hsl dL_417 dL_431 dL_434 (by decide) hW hS (fun H locs x hS kk => ?_) k
  refine lv_aload_n C.1 C.2.1 dL_420 rfl (lv_at hl 2 rfl) ?_
  refine lw_arg C.1 C.2.1 hX hbl hbA (lv_at hl 0 rfl) (lv_at hl 3 rfl) (k := 1) rfl (by omega) hL hS dL_421 dL_422 dL_423 dL_424 dL_425 ?_
  refine lw_arg C.1 C.2.1 hX hbl hbA (lv_at hl 0 rfl) (lv_at hl 3 rfl) (k := 2) rfl (by omega) hL hS dL_426 dL_427 dL_428 dL_429 dL_430 ?_
  exact kk
theorem lc_9 (C : en_cx p s m args meth c code 4 13 D tys aK aV b0) (hX : va_X b L xs s s.heap) (hbl : b < s.heap.size) (hbA : ¬ b0 ≤ b) (hL6 : 6 ≤ L) (hL : L < 2 ^ 31) (hl : lv_has ls 4 [(0, .ref b), (1, .ref (ad 0)), (2, .ref (ad 84)), (3, .int 0)]) (hcs : cs ≤ 600000) (hsl : sl ≤ 7302250) (hW : en_W D tys (fun q => b0 ≤ q) tW_39 ad H) (hS : va_S (fun q => b0 ≤ q) s.heap H locs) (k : lw_go p l e s m args below meth c Q D tys b0 ls cs sl 830) : W p l e room_1 s m args below meth c H locs cs sl Q (F0 m 439 ls []) := by
  obtain ⟨κa, κb, box, h1, h2, h3, h4⟩ := pr_source l (xs 1) (xs 2)
  refine lv_aload_n C.1 C.2.1 dL_439 rfl (lv_at hl 1 rfl) ?_
  refine lw_arg C.1 C.2.1 hX hbl hbA (lv_at hl 0 rfl) (lv_at hl 3 rfl) (k := 1) rfl (by omega) hL hS dL_440 dL_441 dL_442 dL_443 dL_444 ?_
  refine lw_arg C.1 C.2.1 hX hbl hbA (lv_at hl 0 rfl) (lv_at hl 3 rfl) (k := 2) rfl (by omega) hL hS dL_445 dL_446 dL_447 dL_448 dL_449 ?_
  refine lw_two C (j0 := 0) (j1 := 84) (ia := 53) (ib := 56) (n := 2) (As := [.int (xs 1), .int (xs 2)]) (pa := 450) (pb := 464) (pe := 830) h1 h2 h3 (h4 _ _) hl.1 hcs hsl dL_450 dL_464 dL_467 (by decide) hW hS (fun H locs x hS kk => ?_) k
  refine lv_aload_n C.1 C.2.1 dL_453 rfl (lv_at hl 2 rfl) ?_
  refine lw_arg C.1 C.2.1 hX hbl hbA (lv_at hl 0 rfl) (lv_at hl 3 rfl) (k := 1) rfl (by omega) hL hS dL_454 dL_455 dL_456 dL_457 dL_458 ?_
  refine lw_arg C.1 C.2.1 hX hbl hbA (lv_at hl 0 rfl) (lv_at hl 3 rfl) (k := 2) rfl (by omega) hL hS dL_459 dL_460 dL_461 dL_462 dL_463 ?_
  exact kk
theorem lc_10 (C : en_cx p s m args meth c code 4 13 D tys aK aV b0) (hX : va_X b L xs s s.heap) (hbl : b < s.heap.size) (hbA : ¬ b0 ≤ b) (hL6 : 6 ≤ L) (hL : L < 2 ^ 31) (hl : lv_has ls 4 [(0, .ref b), (1, .ref (ad 0)), (2, .ref (ad 84)), (3, .int 0)]) (hcs : cs ≤ 600000) (hsl : sl ≤ 7302250) (hW : en_W D tys (fun q => b0 ≤ q) tW_39 ad H) (hS : va_S (fun q => b0 ≤ q) s.heap H locs) (k : lw_go p l e s m args below meth c Q D tys b0 ls cs sl 830) : W p l e room_1 s m args below meth c H locs cs sl Q (F0 m 472 ls []) := by
  obtain ⟨κa, κb, box, h1, h2, h3, h4⟩ := pr_now l (xs 1)
  refine lv_aload_n C.1 C.2.1 dL_472 rfl (lv_at hl 1 rfl) ?_
  refine lw_arg C.1 C.2.1 hX hbl hbA (lv_at hl 0 rfl) (lv_at hl 3 rfl) (k := 1) rfl (by omega) hL hS dL_473 dL_474 dL_475 dL_476 dL_477 ?_
  refine lw_two C (j0 := 0) (j1 := 84) (ia := 57) (ib := 60) (n := 1) (As := [.int (xs 1)]) (pa := 478) (pb := 487) (pe := 830) h1 h2 h3 (h4 _ _) hl.1 hcs hsl dL_478 dL_487 dL_490 (by decide) hW hS (fun H locs x hS kk => ?_) k
  refine lv_aload_n C.1 C.2.1 dL_481 rfl (lv_at hl 2 rfl) ?_
  refine lw_arg C.1 C.2.1 hX hbl hbA (lv_at hl 0 rfl) (lv_at hl 3 rfl) (k := 1) rfl (by omega) hL hS dL_482 dL_483 dL_484 dL_485 dL_486 ?_
  exact kk
theorem lc_11 (C : en_cx p s m args meth c code 4 13 D tys aK aV b0) (hX : va_X b L xs s s.heap) (hbl : b < s.heap.size) (hbA : ¬ b0 ≤ b) (hL6 : 6 ≤ L) (hL : L < 2 ^ 31) (hl : lv_has ls 4 [(0, .ref b), (1, .ref (ad 0)), (2, .ref (ad 84)), (3, .int 0)]) (hcs : cs ≤ 600000) (hsl : sl ≤ 7302250) (hW : en_W D tys (fun q => b0 ≤ q) tW_39 ad H) (hS : va_S (fun q => b0 ≤ q) s.heap H locs) (k : lw_go p l e s m args below meth c Q D tys b0 ls cs sl 830) : W p l e room_1 s m args below meth c H locs cs sl Q (F0 m 495 ls []) := by
  obtain ⟨κa, κb, box, h1, h2, h3, h4⟩ := pr_plain l (xs 1)
  refine lv_aload_n C.1 C.2.1 dL_495 rfl (lv_at hl 1 rfl) ?_
  refine lw_arg C.1 C.2.1 hX hbl hbA (lv_at hl 0 rfl) (lv_at hl 3 rfl) (k := 1) rfl (by omega) hL hS dL_496 dL_497 dL_498 dL_499 dL_500 ?_
  refine lw_two C (j0 := 0) (j1 := 84) (ia := 61) (ib := 64) (n := 1) (As := [.int (xs 1)]) (pa := 501) (pb := 510) (pe := 830) h1 h2 h3 (h4 _ _) hl.1 hcs hsl dL_501 dL_510 dL_513 (by decide) hW hS (fun H locs x hS kk => ?_) k
  refine lv_aload_n C.1 C.2.1 dL_504 rfl (lv_at hl 2 rfl) ?_
  refine lw_arg C.1 C.2.1 hX hbl hbA (lv_at hl 0 rfl) (lv_at hl 3 rfl) (k := 1) rfl (by omega) hL hS dL_505 dL_506 dL_507 dL_508 dL_509 ?_
  exact kk
theorem lc_12 (C : en_cx p s m args meth c code 4 13 D tys aK aV b0) (hX : va_X b L xs s s.heap) (hbl : b < s.heap.size) (hbA : ¬ b0 ≤ b) (hL6 : 6 ≤ L) (hL : L < 2 ^ 31) (hl : lv_has ls 4 [(0, .ref b), (1, .ref (ad 0)), (2, .ref (ad 84)), (3, .int 0)]) (hcs : cs ≤ 600000) (hsl : sl ≤ 7302250) (hW : en_W D tys (fun q => b0 ≤ q) tW_39 ad H) (hS : va_S (fun q => b0 ≤ q) s.heap H locs) (k : lw_go p l e s m args below meth c Q D tys b0 ls cs sl 830) : W p l e room_1 s m args below meth c H locs cs sl Q (F0 m 518 ls []) := by
  obtain ⟨κa, κb, box, h1, h2, h3, h4⟩ := pr_unlike l (xs 1)
  refine lv_aload_n C.1 C.2.1 dL_518 rfl (lv_at hl 1 rfl) ?_
  refine lw_arg C.1 C.2.1 hX hbl hbA (lv_at hl 0 rfl) (lv_at hl 3 rfl) (k := 1) rfl (by omega) hL hS dL_519 dL_520 dL_521 dL_522 dL_523 ?_
  refine lw_two C (j0 := 0) (j1 := 84) (ia := 65) (ib := 68) (n := 1) (As := [.int (xs 1)]) (pa := 524) (pb := 533) (pe := 830) h1 h2 h3 (h4 _ _) hl.1 hcs hsl dL_524 dL_533 dL_536 (by decide) hW hS (fun H locs x hS kk => ?_) k
  refine lv_aload_n C.1 C.2.1 dL_527 rfl (lv_at hl 2 rfl) ?_
  refine lw_arg C.1 C.2.1 hX hbl hbA (lv_at hl 0 rfl) (lv_at hl 3 rfl) (k := 1) rfl (by omega) hL hS dL_528 dL_529 dL_530 dL_531 dL_532 ?_
  exact kk
theorem lc_13 (C : en_cx p s m args meth c code 4 13 D tys aK aV b0) (hX : va_X b L xs s s.heap) (hbl : b < s.heap.size) (hbA : ¬ b0 ≤ b) (hL6 : 6 ≤ L) (hL : L < 2 ^ 31) (hl : lv_has ls 4 [(0, .ref b), (1, .ref (ad 0)), (2, .ref (ad 84)), (3, .int 0)]) (hcs : cs ≤ 600000) (hsl : sl ≤ 7302250) (hW : en_W D tys (fun q => b0 ≤ q) tW_39 ad H) (hS : va_S (fun q => b0 ≤ q) s.heap H locs) (k : lw_go p l e s m args below meth c Q D tys b0 ls cs sl 830) : W p l e room_1 s m args below meth c H locs cs sl Q (F0 m 541 ls []) := by
  obtain ⟨κa, κb, box, h1, h2, h3, h4⟩ := pr_fastest l (xs 1)
  refine lv_aload_n C.1 C.2.1 dL_541 rfl (lv_at hl 1 rfl) ?_
  refine lw_arg C.1 C.2.1 hX hbl hbA (lv_at hl 0 rfl) (lv_at hl 3 rfl) (k := 1) rfl (by omega) hL hS dL_542 dL_543 dL_544 dL_545 dL_546 ?_
  refine lw_two C (j0 := 0) (j1 := 84) (ia := 69) (ib := 72) (n := 1) (As := [.int (xs 1)]) (pa := 547) (pb := 556) (pe := 830) h1 h2 h3 (h4 _ _) hl.1 hcs hsl dL_547 dL_556 dL_559 (by decide) hW hS (fun H locs x hS kk => ?_) k
  refine lv_aload_n C.1 C.2.1 dL_550 rfl (lv_at hl 2 rfl) ?_
  refine lw_arg C.1 C.2.1 hX hbl hbA (lv_at hl 0 rfl) (lv_at hl 3 rfl) (k := 1) rfl (by omega) hL hS dL_551 dL_552 dL_553 dL_554 dL_555 ?_
  exact kk
theorem lc_14 (C : en_cx p s m args meth c code 4 13 D tys aK aV b0) (hX : va_X b L xs s s.heap) (hbl : b < s.heap.size) (hbA : ¬ b0 ≤ b) (hL6 : 6 ≤ L) (hL : L < 2 ^ 31) (hl : lv_has ls 4 [(0, .ref b), (1, .ref (ad 0)), (2, .ref (ad 84)), (3, .int 0)]) (hcs : cs ≤ 600000) (hsl : sl ≤ 7302250) (hW : en_W D tys (fun q => b0 ≤ q) tW_39 ad H) (hS : va_S (fun q => b0 ≤ q) s.heap H locs) (k : lw_go p l e s m args below meth c Q D tys b0 ls cs sl 830) : W p l e room_1 s m args below meth c H locs cs sl Q (F0 m 564 ls []) := by
  obtain ⟨κa, κb, box, h1, h2, h3, h4⟩ := pr_cautious l (xs 1) (xs 2)
  refine lv_aload_n C.1 C.2.1 dL_564 rfl (lv_at hl 1 rfl) ?_
  refine lw_arg C.1 C.2.1 hX hbl hbA (lv_at hl 0 rfl) (lv_at hl 3 rfl) (k := 1) rfl (by omega) hL hS dL_565 dL_566 dL_567 dL_568 dL_569 ?_
  refine lw_arg C.1 C.2.1 hX hbl hbA (lv_at hl 0 rfl) (lv_at hl 3 rfl) (k := 2) rfl (by omega) hL hS dL_570 dL_571 dL_572 dL_573 dL_574 ?_
  refine lw_two C (j0 := 0) (j1 := 84) (ia := 73) (ib := 76) (n := 2) (As := [.int (xs 1), .int (xs 2)]) (pa := 575) (pb := 589) (pe := 830) h1 h2 h3 (h4 _ _) hl.1 hcs hsl dL_575 dL_589 dL_592 (by decide) hW hS (fun H locs x hS kk => ?_) k
  refine lv_aload_n C.1 C.2.1 dL_578 rfl (lv_at hl 2 rfl) ?_
  refine lw_arg C.1 C.2.1 hX hbl hbA (lv_at hl 0 rfl) (lv_at hl 3 rfl) (k := 1) rfl (by omega) hL hS dL_579 dL_580 dL_581 dL_582 dL_583 ?_
  refine lw_arg C.1 C.2.1 hX hbl hbA (lv_at hl 0 rfl) (lv_at hl 3 rfl) (k := 2) rfl (by omega) hL hS dL_584 dL_585 dL_586 dL_587 dL_588 ?_
  exact kk
theorem lc_15 (C : en_cx p s m args meth c code 4 13 D tys aK aV b0) (hX : va_X b L xs s s.heap) (hbl : b < s.heap.size) (hbA : ¬ b0 ≤ b) (hL6 : 6 ≤ L) (hL : L < 2 ^ 31) (hl : lv_has ls 4 [(0, .ref b), (1, .ref (ad 0)), (2, .ref (ad 84)), (3, .int 0)]) (hcs : cs ≤ 600000) (hsl : sl ≤ 7302250) (hW : en_W D tys (fun q => b0 ≤ q) tW_39 ad H) (hS : va_S (fun q => b0 ≤ q) s.heap H locs) (k : lw_go p l e s m args below meth c Q D tys b0 ls cs sl 830) : W p l e room_1 s m args below meth c H locs cs sl Q (F0 m 597 ls []) := by
  obtain ⟨κa, κb, box, h1, h2, h3, h4⟩ := pr_worst l (xs 1)
  refine lv_aload_n C.1 C.2.1 dL_597 rfl (lv_at hl 1 rfl) ?_
  refine lw_arg C.1 C.2.1 hX hbl hbA (lv_at hl 0 rfl) (lv_at hl 3 rfl) (k := 1) rfl (by omega) hL hS dL_598 dL_599 dL_600 dL_601 dL_602 ?_
  refine lw_two C (j0 := 0) (j1 := 84) (ia := 77) (ib := 80) (n := 1) (As := [.int (xs 1)]) (pa := 603) (pb := 612) (pe := 830) h1 h2 h3 (h4 _ _) hl.1 hcs hsl dL_603 dL_612 dL_615 (by decide) hW hS (fun H locs x hS kk => ?_) k
  refine lv_aload_n C.1 C.2.1 dL_606 rfl (lv_at hl 2 rfl) ?_
  refine lw_arg C.1 C.2.1 hX hbl hbA (lv_at hl 0 rfl) (lv_at hl 3 rfl) (k := 1) rfl (by omega) hL hS dL_607 dL_608 dL_609 dL_610 dL_611 ?_
  exact kk
theorem lc_16 (C : en_cx p s m args meth c code 4 13 D tys aK aV b0) (hX : va_X b L xs s s.heap) (hbl : b < s.heap.size) (hbA : ¬ b0 ≤ b) (hL6 : 6 ≤ L) (hL : L < 2 ^ 31) (hl : lv_has ls 4 [(0, .ref b), (1, .ref (ad 0)), (2, .ref (ad 84)), (3, .int 0)]) (hcs : cs ≤ 600000) (hsl : sl ≤ 7302250) (hW : en_W D tys (fun q => b0 ≤ q) tW_39 ad H) (hS : va_S (fun q => b0 ≤ q) s.heap H locs) (k : lw_go p l e s m args below meth c Q D tys b0 ls cs sl 830) : W p l e room_1 s m args below meth c H locs cs sl Q (F0 m 620 ls []) := by
  obtain ⟨κa, κb, box, h1, h2, h3, h4⟩ := pr_deep l
  refine lv_aload_n C.1 C.2.1 dL_620 rfl (lv_at hl 1 rfl) ?_
  refine lw_two C (j0 := 0) (j1 := 84) (ia := 81) (ib := 85) (n := 0) (As := []) (pa := 621) (pb := 625) (pe := 830) h1 h2 h3 (h4 _ _) hl.1 hcs hsl dL_621 dL_625 dL_628 (by decide) hW hS (fun H locs x hS kk => ?_) k
  refine lv_aload_n C.1 C.2.1 dL_624 rfl (lv_at hl 2 rfl) ?_
  exact kk
theorem lc_17 (C : en_cx p s m args meth c code 4 13 D tys aK aV b0) (hX : va_X b L xs s s.heap) (hbl : b < s.heap.size) (hbA : ¬ b0 ≤ b) (hL6 : 6 ≤ L) (hL : L < 2 ^ 31) (hl : lv_has ls 4 [(0, .ref b), (1, .ref (ad 0)), (2, .ref (ad 84)), (3, .int 0)]) (hcs : cs ≤ 600000) (hsl : sl ≤ 7302250) (hW : en_W D tys (fun q => b0 ≤ q) tW_39 ad H) (hS : va_S (fun q => b0 ≤ q) s.heap H locs) (k : lw_go p l e s m args below meth c Q D tys b0 ls cs sl 830) : W p l e room_1 s m args below meth c H locs cs sl Q (F0 m 633 ls []) := by
  obtain ⟨κa, κb, box, h1, h2, h3, h4⟩ := pr_mix l
  refine lv_aload_n C.1 C.2.1 dL_633 rfl (lv_at hl 1 rfl) ?_
  refine lw_two C (j0 := 0) (j1 := 84) (ia := 86) (ib := 89) (n := 0) (As := []) (pa := 634) (pb := 638) (pe := 830) h1 h2 h3 (h4 _ _) hl.1 hcs hsl dL_634 dL_638 dL_641 (by decide) hW hS (fun H locs x hS kk => ?_) k
  refine lv_aload_n C.1 C.2.1 dL_637 rfl (lv_at hl 2 rfl) ?_
  exact kk
theorem lc_18 (C : en_cx p s m args meth c code 4 13 D tys aK aV b0) (hX : va_X b L xs s s.heap) (hbl : b < s.heap.size) (hbA : ¬ b0 ≤ b) (hL6 : 6 ≤ L) (hL : L < 2 ^ 31) (hl : lv_has ls 4 [(0, .ref b), (1, .ref (ad 0)), (2, .ref (ad 84)), (3, .int 0)]) (hcs : cs ≤ 600000) (hsl : sl ≤ 7302250) (hW : en_W D tys (fun q => b0 ≤ q) tW_39 ad H) (hS : va_S (fun q => b0 ≤ q) s.heap H locs) (k : lw_go p l e s m args below meth c Q D tys b0 ls cs sl 830) : W p l e room_1 s m args below meth c H locs cs sl Q (F0 m 646 ls []) := by
  obtain ⟨κa, κb, box, h1, h2, h3, h4⟩ := pr_watch l (xs 1) (xs 2)
  refine lv_aload_n C.1 C.2.1 dL_646 rfl (lv_at hl 1 rfl) ?_
  refine lw_arg C.1 C.2.1 hX hbl hbA (lv_at hl 0 rfl) (lv_at hl 3 rfl) (k := 1) rfl (by omega) hL hS dL_647 dL_648 dL_649 dL_650 dL_651 ?_
  refine lw_arg C.1 C.2.1 hX hbl hbA (lv_at hl 0 rfl) (lv_at hl 3 rfl) (k := 2) rfl (by omega) hL hS dL_652 dL_653 dL_654 dL_655 dL_656 ?_
  refine lw_two C (j0 := 0) (j1 := 84) (ia := 90) (ib := 93) (n := 2) (As := [.int (xs 1), .int (xs 2)]) (pa := 657) (pb := 671) (pe := 830) h1 h2 h3 (h4 _ _) hl.1 hcs hsl dL_657 dL_671 dL_674 (by decide) hW hS (fun H locs x hS kk => ?_) k
  refine lv_aload_n C.1 C.2.1 dL_660 rfl (lv_at hl 2 rfl) ?_
  refine lw_arg C.1 C.2.1 hX hbl hbA (lv_at hl 0 rfl) (lv_at hl 3 rfl) (k := 1) rfl (by omega) hL hS dL_661 dL_662 dL_663 dL_664 dL_665 ?_
  refine lw_arg C.1 C.2.1 hX hbl hbA (lv_at hl 0 rfl) (lv_at hl 3 rfl) (k := 2) rfl (by omega) hL hS dL_666 dL_667 dL_668 dL_669 dL_670 ?_
  exact kk
theorem lc_19 (C : en_cx p s m args meth c code 4 13 D tys aK aV b0) (hX : va_X b L xs s s.heap) (hbl : b < s.heap.size) (hbA : ¬ b0 ≤ b) (hL6 : 6 ≤ L) (hL : L < 2 ^ 31) (hl : lv_has ls 4 [(0, .ref b), (1, .ref (ad 0)), (2, .ref (ad 84)), (3, .int 0)]) (hcs : cs ≤ 600000) (hsl : sl ≤ 7302250) (hW : en_W D tys (fun q => b0 ≤ q) tW_39 ad H) (hS : va_S (fun q => b0 ≤ q) s.heap H locs) (k : lw_go p l e s m args below meth c Q D tys b0 ls cs sl 830) : W p l e room_1 s m args below meth c H locs cs sl Q (F0 m 679 ls []) := by
  obtain ⟨κa, κb, box, h1, h2, h3, h4⟩ := pr_watched l (xs 1) (xs 2) (xs 3)
  refine lv_aload_n C.1 C.2.1 dL_679 rfl (lv_at hl 1 rfl) ?_
  refine lw_arg C.1 C.2.1 hX hbl hbA (lv_at hl 0 rfl) (lv_at hl 3 rfl) (k := 1) rfl (by omega) hL hS dL_680 dL_681 dL_682 dL_683 dL_684 ?_
  refine lw_arg C.1 C.2.1 hX hbl hbA (lv_at hl 0 rfl) (lv_at hl 3 rfl) (k := 2) rfl (by omega) hL hS dL_685 dL_686 dL_687 dL_688 dL_689 ?_
  refine lw_arg C.1 C.2.1 hX hbl hbA (lv_at hl 0 rfl) (lv_at hl 3 rfl) (k := 3) rfl (by omega) hL hS dL_690 dL_691 dL_692 dL_693 dL_694 ?_
  refine lw_two C (j0 := 0) (j1 := 84) (ia := 94) (ib := 98) (n := 3) (As := [.int (xs 1), .int (xs 2), .int (xs 3)]) (pa := 695) (pb := 714) (pe := 830) h1 h2 h3 (h4 _ _) hl.1 hcs hsl dL_695 dL_714 dL_717 (by decide) hW hS (fun H locs x hS kk => ?_) k
  refine lv_aload_n C.1 C.2.1 dL_698 rfl (lv_at hl 2 rfl) ?_
  refine lw_arg C.1 C.2.1 hX hbl hbA (lv_at hl 0 rfl) (lv_at hl 3 rfl) (k := 1) rfl (by omega) hL hS dL_699 dL_700 dL_701 dL_702 dL_703 ?_
  refine lw_arg C.1 C.2.1 hX hbl hbA (lv_at hl 0 rfl) (lv_at hl 3 rfl) (k := 2) rfl (by omega) hL hS dL_704 dL_705 dL_706 dL_707 dL_708 ?_
  refine lw_arg C.1 C.2.1 hX hbl hbA (lv_at hl 0 rfl) (lv_at hl 3 rfl) (k := 3) rfl (by omega) hL hS dL_709 dL_710 dL_711 dL_712 dL_713 ?_
  exact kk
theorem lc_20 (C : en_cx p s m args meth c code 4 13 D tys aK aV b0) (hX : va_X b L xs s s.heap) (hbl : b < s.heap.size) (hbA : ¬ b0 ≤ b) (hL6 : 6 ≤ L) (hL : L < 2 ^ 31) (hl : lv_has ls 4 [(0, .ref b), (1, .ref (ad 0)), (2, .ref (ad 84)), (3, .int 0)]) (hcs : cs ≤ 600000) (hsl : sl ≤ 7302250) (hW : en_W D tys (fun q => b0 ≤ q) tW_39 ad H) (hS : va_S (fun q => b0 ≤ q) s.heap H locs) (k : lw_go p l e s m args below meth c Q D tys b0 ls cs sl 830) : W p l e room_1 s m args below meth c H locs cs sl Q (F0 m 722 ls []) := by
  obtain ⟨κa, κb, box, h1, h2, h3, h4⟩ := pr_forget l
  refine lv_aload_n C.1 C.2.1 dL_722 rfl (lv_at hl 1 rfl) ?_
  refine lw_two C (j0 := 0) (j1 := 84) (ia := 99) (ib := 102) (n := 0) (As := []) (pa := 723) (pb := 727) (pe := 830) h1 h2 h3 (h4 _ _) hl.1 hcs hsl dL_723 dL_727 dL_730 (by decide) hW hS (fun H locs x hS kk => ?_) k
  refine lv_aload_n C.1 C.2.1 dL_726 rfl (lv_at hl 2 rfl) ?_
  exact kk
theorem lc_21 (C : en_cx p s m args meth c code 4 13 D tys aK aV b0) (hX : va_X b L xs s s.heap) (hbl : b < s.heap.size) (hbA : ¬ b0 ≤ b) (hL6 : 6 ≤ L) (hL : L < 2 ^ 31) (hl : lv_has ls 4 [(0, .ref b), (1, .ref (ad 0)), (2, .ref (ad 84)), (3, .int 0)]) (hcs : cs ≤ 600000) (hsl : sl ≤ 7302250) (hW : en_W D tys (fun q => b0 ≤ q) tW_39 ad H) (hS : va_S (fun q => b0 ≤ q) s.heap H locs) (k : lw_go p l e s m args below meth c Q D tys b0 ls cs sl 830) : W p l e room_1 s m args below meth c H locs cs sl Q (F0 m 735 ls []) := by
  obtain ⟨κa, κb, box, h1, h2, h3, h4⟩ := pr_seed l (xs 1)
  refine lv_aload_n C.1 C.2.1 dL_735 rfl (lv_at hl 1 rfl) ?_
  refine lw_arg C.1 C.2.1 hX hbl hbA (lv_at hl 0 rfl) (lv_at hl 3 rfl) (k := 1) rfl (by omega) hL hS dL_736 dL_737 dL_738 dL_739 dL_740 ?_
  refine lw_two C (j0 := 0) (j1 := 84) (ia := 103) (ib := 107) (n := 1) (As := [.int (xs 1)]) (pa := 741) (pb := 750) (pe := 830) h1 h2 h3 (h4 _ _) hl.1 hcs hsl dL_741 dL_750 dL_753 (by decide) hW hS (fun H locs x hS kk => ?_) k
  refine lv_aload_n C.1 C.2.1 dL_744 rfl (lv_at hl 2 rfl) ?_
  refine lw_arg C.1 C.2.1 hX hbl hbA (lv_at hl 0 rfl) (lv_at hl 3 rfl) (k := 1) rfl (by omega) hL hS dL_745 dL_746 dL_747 dL_748 dL_749 ?_
  exact kk
theorem lc_22 (C : en_cx p s m args meth c code 4 13 D tys aK aV b0) (hX : va_X b L xs s s.heap) (hbl : b < s.heap.size) (hbA : ¬ b0 ≤ b) (hL6 : 6 ≤ L) (hL : L < 2 ^ 31) (hl : lv_has ls 4 [(0, .ref b), (1, .ref (ad 0)), (2, .ref (ad 84)), (3, .int 0)]) (hcs : cs ≤ 600000) (hsl : sl ≤ 7302250) (hW : en_W D tys (fun q => b0 ≤ q) tW_39 ad H) (hS : va_S (fun q => b0 ≤ q) s.heap H locs) (k : lw_go p l e s m args below meth c Q D tys b0 ls cs sl 830) : W p l e room_1 s m args below meth c H locs cs sl Q (F0 m 758 ls []) := by
  obtain ⟨κa, κb, box, h1, h2, h3, h4⟩ := pr_keep l
  refine lv_aload_n C.1 C.2.1 dL_758 rfl (lv_at hl 1 rfl) ?_
  refine lw_two C (j0 := 0) (j1 := 84) (ia := 108) (ib := 111) (n := 0) (As := []) (pa := 759) (pb := 763) (pe := 830) h1 h2 h3 (h4 _ _) hl.1 hcs hsl dL_759 dL_763 dL_766 (by decide) hW hS (fun H locs x hS kk => ?_) k
  refine lv_aload_n C.1 C.2.1 dL_762 rfl (lv_at hl 2 rfl) ?_
  exact kk
theorem lc_23 (C : en_cx p s m args meth c code 4 13 D tys aK aV b0) (hX : va_X b L xs s s.heap) (hbl : b < s.heap.size) (hbA : ¬ b0 ≤ b) (hL6 : 6 ≤ L) (hL : L < 2 ^ 31) (hl : lv_has ls 4 [(0, .ref b), (1, .ref (ad 0)), (2, .ref (ad 84)), (3, .int 0)]) (hcs : cs ≤ 600000) (hsl : sl ≤ 7302250) (hW : en_W D tys (fun q => b0 ≤ q) tW_39 ad H) (hS : va_S (fun q => b0 ≤ q) s.heap H locs) (k : lw_go p l e s m args below meth c Q D tys b0 ls cs sl 830) : W p l e room_1 s m args below meth c H locs cs sl Q (F0 m 771 ls []) := by
  obtain ⟨κa, κb, box, h1, h2, h3, h4⟩ := pr_undo l
  refine lv_aload_n C.1 C.2.1 dL_771 rfl (lv_at hl 1 rfl) ?_
  refine lw_two C (j0 := 0) (j1 := 84) (ia := 112) (ib := 116) (n := 0) (As := []) (pa := 772) (pb := 776) (pe := 830) h1 h2 h3 (h4 _ _) hl.1 hcs hsl dL_772 dL_776 dL_779 (by decide) hW hS (fun H locs x hS kk => ?_) k
  refine lv_aload_n C.1 C.2.1 dL_775 rfl (lv_at hl 2 rfl) ?_
  exact kk
theorem lc_24 (C : en_cx p s m args meth c code 4 13 D tys aK aV b0) (hX : va_X b L xs s s.heap) (hbl : b < s.heap.size) (hbA : ¬ b0 ≤ b) (hL6 : 6 ≤ L) (hL : L < 2 ^ 31) (hl : lv_has ls 4 [(0, .ref b), (1, .ref (ad 0)), (2, .ref (ad 84)), (3, .int 0)]) (hcs : cs ≤ 600000) (hsl : sl ≤ 7302250) (hW : en_W D tys (fun q => b0 ≤ q) tW_39 ad H) (hS : va_S (fun q => b0 ≤ q) s.heap H locs) (k : lw_go p l e s m args below meth c Q D tys b0 ls cs sl 830) : W p l e room_1 s m args below meth c H locs cs sl Q (F0 m 784 ls []) := by
  obtain ⟨κa, κb, box, h1, h2, h3, h4⟩ := pr_check l (xs 1)
  refine lv_aload_n C.1 C.2.1 dL_784 rfl (lv_at hl 1 rfl) ?_
  refine lw_arg C.1 C.2.1 hX hbl hbA (lv_at hl 0 rfl) (lv_at hl 3 rfl) (k := 1) rfl (by omega) hL hS dL_785 dL_786 dL_787 dL_788 dL_789 ?_
  refine lw_two C (j0 := 0) (j1 := 84) (ia := 117) (ib := 120) (n := 1) (As := [.int (xs 1)]) (pa := 790) (pb := 799) (pe := 830) h1 h2 h3 (h4 _ _) hl.1 hcs hsl dL_790 dL_799 dL_802 (by decide) hW hS (fun H locs x hS kk => ?_) k
  refine lv_aload_n C.1 C.2.1 dL_793 rfl (lv_at hl 2 rfl) ?_
  refine lw_arg C.1 C.2.1 hX hbl hbA (lv_at hl 0 rfl) (lv_at hl 3 rfl) (k := 1) rfl (by omega) hL hS dL_794 dL_795 dL_796 dL_797 dL_798 ?_
  exact kk
theorem lc_25 (C : en_cx p s m args meth c code 4 13 D tys aK aV b0) (hX : va_X b L xs s s.heap) (hbl : b < s.heap.size) (hbA : ¬ b0 ≤ b) (hL6 : 6 ≤ L) (hL : L < 2 ^ 31) (hl : lv_has ls 4 [(0, .ref b), (1, .ref (ad 0)), (2, .ref (ad 84)), (3, .int 0)]) (hcs : cs ≤ 600000) (hsl : sl ≤ 7302250) (hW : en_W D tys (fun q => b0 ≤ q) tW_39 ad H) (hS : va_S (fun q => b0 ≤ q) s.heap H locs) (k : lw_go p l e s m args below meth c Q D tys b0 ls cs sl 830) : W p l e room_1 s m args below meth c H locs cs sl Q (F0 m 807 ls []) := by
  obtain ⟨κa, κb, box, h1, h2, h3, h4⟩ := pr_count l (xs 1)
  refine lv_aload_n C.1 C.2.1 dL_807 rfl (lv_at hl 1 rfl) ?_
  refine lw_arg C.1 C.2.1 hX hbl hbA (lv_at hl 0 rfl) (lv_at hl 3 rfl) (k := 1) rfl (by omega) hL hS dL_808 dL_809 dL_810 dL_811 dL_812 ?_
  refine lw_two C (j0 := 0) (j1 := 84) (ia := 121) (ib := 124) (n := 1) (As := [.int (xs 1)]) (pa := 813) (pb := 822) (pe := 830) h1 h2 h3 (h4 _ _) hl.1 hcs hsl dL_813 dL_822 dL_825 (by decide) hW hS (fun H locs x hS kk => ?_) k
  refine lv_aload_n C.1 C.2.1 dL_816 rfl (lv_at hl 2 rfl) ?_
  refine lw_arg C.1 C.2.1 hX hbl hbA (lv_at hl 0 rfl) (lv_at hl 3 rfl) (k := 1) rfl (by omega) hL hS dL_817 dL_818 dL_819 dL_820 dL_821 ?_
  exact kk
end ENT
