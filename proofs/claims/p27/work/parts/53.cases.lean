section LE2
variable {p : Program} {l : Launch} {e : Env} {s : State} {m : MethodId} {args : Array Value} {below : List Frame} {meth : Method} {c : Code} {Q : State → Prop} {D : va_G} {tys : List (ClassId × FieldType)} {aK aV b0 cs sl b L i : Nat} {xs : Nat → Int32} {ls : Array Slot} {ad : Nat → Nat} {H : Heap} {locs : List Loc} {ws : va_W}
theorem le_0 (C : ev_cx p s m args meth c code 4 13 D tys aK aV b0) (hX : va_X b L xs s s.heap) (hbl : b < s.heap.size) (hbA : ¬ b0 ≤ b) (hL6 : i + 6 ≤ L) (hL : L < 2 ^ 31) (hi : i ≤ 3078) (hl : lv_has ls 4 [(0, .ref b), (1, .ref (ad 0)), (2, .ref (ad 84)), (3, .int (nI i))]) (hcs : cs ≤ 600000) (hsl : sl ≤ 7302250) (hw : ev_w tys tF ad ws) (hJ : WR i (sg ws) (sg ws)) (hP : va_P D vwCl ws H) (hD : va_D (fun q => b0 ≤ q) ws) (hS : va_S (fun q => b0 ≤ q) s.heap H locs) (k : le_go p l e s m args below meth c Q D tys b0 ad ls cs sl 830 (i + 1)) : W p l e room_1 s m args below meth c H locs cs sl Q (F0 m 152 ls []) := by
  obtain ⟨v, σ1, w, τ1, e1, e2, hJ2, hc⟩ := lt_register (by omega : i ≤ 100000) (xs (i + 1)) (xs (i + 2)) (sg ws) hJ
  refine lv_aload_n C.1 C.2.1 dL_152 rfl (lv_at hl 1 rfl) ?_
  refine le_arg C.1 C.2.1 hX hbl hbA (lv_at hl 0 rfl) (lv_at hl 3 rfl) (k := 1) rfl (by omega) hL hS dL_153 dL_154 dL_155 dL_156 dL_157 ?_
  refine le_arg C.1 C.2.1 hX hbl hbA (lv_at hl 0 rfl) (lv_at hl 3 rfl) (k := 2) rfl (by omega) hL hS dL_158 dL_159 dL_160 dL_161 dL_162 ?_
  refine lf_one C (j := 0) (ia := 13) (n := 2) (As := [.int (xs (i + 1)), .int (xs (i + 2))]) (rest := []) lk_register.1 (ok_X_register_0 e1) ⟨pe_r tf0, pe_i rfl, pe_i rfl, trivial⟩ rfl hl.1 hcs hsl (by decide) dL_163 hw hP hD hS (fun x ws1 H locs hs1 hx hw hP hD hS => ?_)
  refine lv_pop C.1 C.2.1 dL_166 rfl ?_
  refine lv_aload_n C.1 C.2.1 dL_167 rfl (lv_at hl 2 rfl) ?_
  refine le_arg C.1 C.2.1 hX hbl hbA (lv_at hl 0 rfl) (lv_at hl 3 rfl) (k := 1) rfl (by omega) hL hS dL_168 dL_169 dL_170 dL_171 dL_172 ?_
  refine le_arg C.1 C.2.1 hX hbl hbA (lv_at hl 0 rfl) (lv_at hl 3 rfl) (k := 2) rfl (by omega) hL hS dL_173 dL_174 dL_175 dL_176 dL_177 ?_
  refine lf_one C (ws := ws1) (j := 84) (ia := 17) (n := 2) (As := [.int (xs (i + 1)), .int (xs (i + 2))]) (rest := []) lk_register.2 (ok_M_register_84 (by rw [hs1]; exact e2)) ⟨pe_r tf84, pe_i rfl, pe_i rfl, trivial⟩ rfl hl.1 hcs hsl (Nat.le_of_ble_eq_true rfl) dL_178 hw hP hD hS (fun y ws2 H locs hs2 hy hw hP hD hS => ?_)
  refine lv_pop C.1 C.2.1 dL_181 rfl ?_
  refine lv_goto (tgt := 830) C.1 C.2.1 dL_182 (by decide) ?_
  exact k ws2 H locs hw (by rw [hs2]; exact hJ2) hP hD hS
theorem le_1 (C : ev_cx p s m args meth c code 4 13 D tys aK aV b0) (hX : va_X b L xs s s.heap) (hbl : b < s.heap.size) (hbA : ¬ b0 ≤ b) (hL6 : i + 6 ≤ L) (hL : L < 2 ^ 31) (hi : i ≤ 3078) (hl : lv_has ls 4 [(0, .ref b), (1, .ref (ad 0)), (2, .ref (ad 84)), (3, .int (nI i))]) (hcs : cs ≤ 600000) (hsl : sl ≤ 7302250) (hw : ev_w tys tF ad ws) (hJ : WR i (sg ws) (sg ws)) (hP : va_P D vwCl ws H) (hD : va_D (fun q => b0 ≤ q) ws) (hS : va_S (fun q => b0 ≤ q) s.heap H locs) (k : le_go p l e s m args below meth c Q D tys b0 ad ls cs sl 830 (i + 1)) : W p l e room_1 s m args below meth c H locs cs sl Q (F0 m 185 ls []) := by
  obtain ⟨v, σ1, w, τ1, e1, e2, hJ2, hc⟩ := lt_poke (by omega : i ≤ 100000) (xs (i + 1)) (xs (i + 2)) (sg ws) hJ
  refine lv_aload_n C.1 C.2.1 dL_185 rfl (lv_at hl 1 rfl) ?_
  refine le_arg C.1 C.2.1 hX hbl hbA (lv_at hl 0 rfl) (lv_at hl 3 rfl) (k := 1) rfl (by omega) hL hS dL_186 dL_187 dL_188 dL_189 dL_190 ?_
  refine le_arg C.1 C.2.1 hX hbl hbA (lv_at hl 0 rfl) (lv_at hl 3 rfl) (k := 2) rfl (by omega) hL hS dL_191 dL_192 dL_193 dL_194 dL_195 ?_
  refine lf_one C (j := 0) (ia := 18) (n := 2) (As := [.int (xs (i + 1)), .int (xs (i + 2))]) (rest := []) lk_poke.1 (ok_X_poke_0 e1) ⟨pe_r tf0, pe_i rfl, pe_i rfl, trivial⟩ rfl hl.1 hcs hsl (by decide) dL_196 hw hP hD hS (fun x ws1 H locs hs1 hx hw hP hD hS => ?_)
  refine lv_pop C.1 C.2.1 dL_199 rfl ?_
  refine lv_aload_n C.1 C.2.1 dL_200 rfl (lv_at hl 2 rfl) ?_
  refine le_arg C.1 C.2.1 hX hbl hbA (lv_at hl 0 rfl) (lv_at hl 3 rfl) (k := 1) rfl (by omega) hL hS dL_201 dL_202 dL_203 dL_204 dL_205 ?_
  refine le_arg C.1 C.2.1 hX hbl hbA (lv_at hl 0 rfl) (lv_at hl 3 rfl) (k := 2) rfl (by omega) hL hS dL_206 dL_207 dL_208 dL_209 dL_210 ?_
  refine lf_one C (ws := ws1) (j := 84) (ia := 21) (n := 2) (As := [.int (xs (i + 1)), .int (xs (i + 2))]) (rest := []) lk_poke.2 (ok_M_poke_84 (by rw [hs1]; exact e2)) ⟨pe_r tf84, pe_i rfl, pe_i rfl, trivial⟩ rfl hl.1 hcs hsl (Nat.le_of_ble_eq_true rfl) dL_211 hw hP hD hS (fun y ws2 H locs hs2 hy hw hP hD hS => ?_)
  refine lv_pop C.1 C.2.1 dL_214 rfl ?_
  refine lv_goto (tgt := 830) C.1 C.2.1 dL_215 (by decide) ?_
  exact k ws2 H locs hw (by rw [hs2]; exact hJ2) hP hD hS
theorem le_2 (C : ev_cx p s m args meth c code 4 13 D tys aK aV b0) (hX : va_X b L xs s s.heap) (hbl : b < s.heap.size) (hbA : ¬ b0 ≤ b) (hL6 : i + 6 ≤ L) (hL : L < 2 ^ 31) (hi : i ≤ 3078) (hl : lv_has ls 4 [(0, .ref b), (1, .ref (ad 0)), (2, .ref (ad 84)), (3, .int (nI i))]) (hcs : cs ≤ 600000) (hsl : sl ≤ 7302250) (hw : ev_w tys tF ad ws) (hJ : WR i (sg ws) (sg ws)) (hP : va_P D vwCl ws H) (hD : va_D (fun q => b0 ≤ q) ws) (hS : va_S (fun q => b0 ≤ q) s.heap H locs) (k : le_go p l e s m args below meth c Q D tys b0 ad ls cs sl 830 (i + 1)) : W p l e room_1 s m args below meth c H locs cs sl Q (F0 m 218 ls []) := by
  obtain ⟨v, σ1, w, τ1, e1, e2, hJ2, hc⟩ := lt_feed (by omega : i ≤ 100000) (xs (i + 1)) (xs (i + 2)) (xs (i + 3)) (xs (i + 4)) (xs (i + 5)) (sg ws) hJ
  refine lv_aload_n C.1 C.2.1 dL_218 rfl (lv_at hl 1 rfl) ?_
  refine le_arg C.1 C.2.1 hX hbl hbA (lv_at hl 0 rfl) (lv_at hl 3 rfl) (k := 1) rfl (by omega) hL hS dL_219 dL_220 dL_221 dL_222 dL_223 ?_
  refine le_arg C.1 C.2.1 hX hbl hbA (lv_at hl 0 rfl) (lv_at hl 3 rfl) (k := 2) rfl (by omega) hL hS dL_224 dL_225 dL_226 dL_227 dL_228 ?_
  refine le_arg C.1 C.2.1 hX hbl hbA (lv_at hl 0 rfl) (lv_at hl 3 rfl) (k := 3) rfl (by omega) hL hS dL_229 dL_230 dL_231 dL_232 dL_233 ?_
  refine le_arg C.1 C.2.1 hX hbl hbA (lv_at hl 0 rfl) (lv_at hl 3 rfl) (k := 4) rfl (by omega) hL hS dL_234 dL_235 dL_236 dL_237 dL_238 ?_
  refine le_arg C.1 C.2.1 hX hbl hbA (lv_at hl 0 rfl) (lv_at hl 3 rfl) (k := 5) rfl (by omega) hL hS dL_239 dL_240 dL_241 dL_242 dL_243 ?_
  refine lf_one C (j := 0) (ia := 22) (n := 5) (As := [.int (xs (i + 1)), .int (xs (i + 2)), .int (xs (i + 3)), .int (xs (i + 4)), .int (xs (i + 5))]) (rest := []) lk_feed.1 (ok_X_feed_0 e1) ⟨pe_r tf0, pe_i rfl, pe_i rfl, pe_i rfl, pe_i rfl, pe_i rfl, trivial⟩ rfl hl.1 hcs hsl (by decide) dL_244 hw hP hD hS (fun x ws1 H locs hs1 hx hw hP hD hS => ?_)
  refine lv_pop C.1 C.2.1 dL_247 rfl ?_
  refine lv_aload_n C.1 C.2.1 dL_248 rfl (lv_at hl 2 rfl) ?_
  refine le_arg C.1 C.2.1 hX hbl hbA (lv_at hl 0 rfl) (lv_at hl 3 rfl) (k := 1) rfl (by omega) hL hS dL_249 dL_250 dL_251 dL_252 dL_253 ?_
  refine le_arg C.1 C.2.1 hX hbl hbA (lv_at hl 0 rfl) (lv_at hl 3 rfl) (k := 2) rfl (by omega) hL hS dL_254 dL_255 dL_256 dL_257 dL_258 ?_
  refine le_arg C.1 C.2.1 hX hbl hbA (lv_at hl 0 rfl) (lv_at hl 3 rfl) (k := 3) rfl (by omega) hL hS dL_259 dL_260 dL_261 dL_262 dL_263 ?_
  refine le_arg C.1 C.2.1 hX hbl hbA (lv_at hl 0 rfl) (lv_at hl 3 rfl) (k := 4) rfl (by omega) hL hS dL_264 dL_265 dL_266 dL_267 dL_268 ?_
  refine le_arg C.1 C.2.1 hX hbl hbA (lv_at hl 0 rfl) (lv_at hl 3 rfl) (k := 5) rfl (by omega) hL hS dL_269 dL_270 dL_271 dL_272 dL_273 ?_
  refine lf_one C (ws := ws1) (j := 84) (ia := 26) (n := 5) (As := [.int (xs (i + 1)), .int (xs (i + 2)), .int (xs (i + 3)), .int (xs (i + 4)), .int (xs (i + 5))]) (rest := []) lk_feed.2 (ok_M_feed_84 (by rw [hs1]; exact e2)) ⟨pe_r tf84, pe_i rfl, pe_i rfl, pe_i rfl, pe_i rfl, pe_i rfl, trivial⟩ rfl hl.1 hcs hsl (Nat.le_of_ble_eq_true rfl) dL_274 hw hP hD hS (fun y ws2 H locs hs2 hy hw hP hD hS => ?_)
  refine lv_pop C.1 C.2.1 dL_277 rfl ?_
  refine lv_goto (tgt := 830) C.1 C.2.1 dL_278 (by decide) ?_
  exact k ws2 H locs hw (by rw [hs2]; exact hJ2) hP hD hS
theorem le_3 (C : ev_cx p s m args meth c code 4 13 D tys aK aV b0) (hX : va_X b L xs s s.heap) (hbl : b < s.heap.size) (hbA : ¬ b0 ≤ b) (hL6 : i + 6 ≤ L) (hL : L < 2 ^ 31) (hi : i ≤ 3078) (hl : lv_has ls 4 [(0, .ref b), (1, .ref (ad 0)), (2, .ref (ad 84)), (3, .int (nI i))]) (hcs : cs ≤ 600000) (hsl : sl ≤ 7302250) (hw : ev_w tys tF ad ws) (hJ : WR i (sg ws) (sg ws)) (hP : va_P D vwCl ws H) (hD : va_D (fun q => b0 ≤ q) ws) (hS : va_S (fun q => b0 ≤ q) s.heap H locs) (k : le_go p l e s m args below meth c Q D tys b0 ad ls cs sl 830 (i + 1)) : W p l e room_1 s m args below meth c H locs cs sl Q (F0 m 281 ls []) := by
  obtain ⟨v, σ1, w, τ1, e1, e2, hJ2, hc⟩ := lt_law (by omega : i ≤ 100000) (xs (i + 1)) (sg ws) hJ
  refine lv_aload_n C.1 C.2.1 dL_281 rfl (lv_at hl 1 rfl) ?_
  refine le_arg C.1 C.2.1 hX hbl hbA (lv_at hl 0 rfl) (lv_at hl 3 rfl) (k := 1) rfl (by omega) hL hS dL_282 dL_283 dL_284 dL_285 dL_286 ?_
  refine lf_one C (j := 0) (ia := 27) (n := 1) (As := [.int (xs (i + 1))]) (rest := []) lk_law.1 (ok_X_law_0 e1) ⟨pe_r tf0, pe_i rfl, trivial⟩ rfl hl.1 hcs hsl (by decide) dL_287 hw hP hD hS (fun x ws1 H locs hs1 hx hw hP hD hS => ?_)
  refine lv_pop C.1 C.2.1 dL_290 rfl ?_
  refine lv_aload_n C.1 C.2.1 dL_291 rfl (lv_at hl 2 rfl) ?_
  refine le_arg C.1 C.2.1 hX hbl hbA (lv_at hl 0 rfl) (lv_at hl 3 rfl) (k := 1) rfl (by omega) hL hS dL_292 dL_293 dL_294 dL_295 dL_296 ?_
  refine lf_one C (ws := ws1) (j := 84) (ia := 31) (n := 1) (As := [.int (xs (i + 1))]) (rest := []) lk_law.2 (ok_M_law_84 (by rw [hs1]; exact e2)) ⟨pe_r tf84, pe_i rfl, trivial⟩ rfl hl.1 hcs hsl (Nat.le_of_ble_eq_true rfl) dL_297 hw hP hD hS (fun y ws2 H locs hs2 hy hw hP hD hS => ?_)
  refine lv_pop C.1 C.2.1 dL_300 rfl ?_
  refine lv_goto (tgt := 830) C.1 C.2.1 dL_301 (by decide) ?_
  exact k ws2 H locs hw (by rw [hs2]; exact hJ2) hP hD hS
theorem le_4 (C : ev_cx p s m args meth c code 4 13 D tys aK aV b0) (hX : va_X b L xs s s.heap) (hbl : b < s.heap.size) (hbA : ¬ b0 ≤ b) (hL6 : i + 6 ≤ L) (hL : L < 2 ^ 31) (hi : i ≤ 3078) (hl : lv_has ls 4 [(0, .ref b), (1, .ref (ad 0)), (2, .ref (ad 84)), (3, .int (nI i))]) (hcs : cs ≤ 600000) (hsl : sl ≤ 7302250) (hw : ev_w tys tF ad ws) (hJ : WR i (sg ws) (sg ws)) (hP : va_P D vwCl ws H) (hD : va_D (fun q => b0 ≤ q) ws) (hS : va_S (fun q => b0 ≤ q) s.heap H locs) (k : le_go p l e s m args below meth c Q D tys b0 ad ls cs sl 830 (i + 1)) : W p l e room_1 s m args below meth c H locs cs sl Q (F0 m 304 ls []) := by
  obtain ⟨v, σ1, w, τ1, e1, e2, hJ2, hc⟩ := lt_program (by omega : i ≤ 100000) (xs (i + 1)) (sg ws) hJ
  refine lv_aload_n C.1 C.2.1 dL_304 rfl (lv_at hl 1 rfl) ?_
  refine le_arg C.1 C.2.1 hX hbl hbA (lv_at hl 0 rfl) (lv_at hl 3 rfl) (k := 1) rfl (by omega) hL hS dL_305 dL_306 dL_307 dL_308 dL_309 ?_
  refine lf_one C (j := 0) (ia := 32) (n := 1) (As := [.int (xs (i + 1))]) (rest := []) lk_program.1 (ok_X_program_0 e1) ⟨pe_r tf0, pe_i rfl, trivial⟩ rfl hl.1 hcs hsl (by decide) dL_310 hw hP hD hS (fun x ws1 H locs hs1 hx hw hP hD hS => ?_)
  refine lv_pop C.1 C.2.1 dL_313 rfl ?_
  refine lv_aload_n C.1 C.2.1 dL_314 rfl (lv_at hl 2 rfl) ?_
  refine le_arg C.1 C.2.1 hX hbl hbA (lv_at hl 0 rfl) (lv_at hl 3 rfl) (k := 1) rfl (by omega) hL hS dL_315 dL_316 dL_317 dL_318 dL_319 ?_
  refine lf_one C (ws := ws1) (j := 84) (ia := 35) (n := 1) (As := [.int (xs (i + 1))]) (rest := []) lk_program.2 (ok_M_program_84 (by rw [hs1]; exact e2)) ⟨pe_r tf84, pe_i rfl, trivial⟩ rfl hl.1 hcs hsl (Nat.le_of_ble_eq_true rfl) dL_320 hw hP hD hS (fun y ws2 H locs hs2 hy hw hP hD hS => ?_)
  refine lv_pop C.1 C.2.1 dL_323 rfl ?_
  refine lv_goto (tgt := 830) C.1 C.2.1 dL_324 (by decide) ?_
  exact k ws2 H locs hw (by rw [hs2]; exact hJ2) hP hD hS
theorem le_5 (C : ev_cx p s m args meth c code 4 13 D tys aK aV b0) (hX : va_X b L xs s s.heap) (hbl : b < s.heap.size) (hbA : ¬ b0 ≤ b) (hL6 : i + 6 ≤ L) (hL : L < 2 ^ 31) (hi : i ≤ 3078) (hl : lv_has ls 4 [(0, .ref b), (1, .ref (ad 0)), (2, .ref (ad 84)), (3, .int (nI i))]) (hcs : cs ≤ 600000) (hsl : sl ≤ 7302250) (hw : ev_w tys tF ad ws) (hJ : WR i (sg ws) (sg ws)) (hP : va_P D vwCl ws H) (hD : va_D (fun q => b0 ≤ q) ws) (hS : va_S (fun q => b0 ≤ q) s.heap H locs) (k : le_go p l e s m args below meth c Q D tys b0 ad ls cs sl 830 (i + 1)) : W p l e room_1 s m args below meth c H locs cs sl Q (F0 m 327 ls []) := by
  obtain ⟨v, σ1, w, τ1, e1, e2, hJ2, hc⟩ := lt_run (by omega : i ≤ 100000) (xs (i + 1)) (sg ws) hJ
  refine lv_aload_n C.1 C.2.1 dL_327 rfl (lv_at hl 1 rfl) ?_
  refine le_arg C.1 C.2.1 hX hbl hbA (lv_at hl 0 rfl) (lv_at hl 3 rfl) (k := 1) rfl (by omega) hL hS dL_328 dL_329 dL_330 dL_331 dL_332 ?_
  refine lf_one C (j := 0) (ia := 36) (n := 1) (As := [.int (xs (i + 1))]) (rest := []) lk_run.1 (ok_X_run_0 e1) ⟨pe_r tf0, pe_i rfl, trivial⟩ rfl hl.1 hcs hsl (by decide) dL_333 hw hP hD hS (fun x ws1 H locs hs1 hx hw hP hD hS => ?_)
  refine lv_pop C.1 C.2.1 dL_336 rfl ?_
  refine lv_aload_n C.1 C.2.1 dL_337 rfl (lv_at hl 2 rfl) ?_
  refine le_arg C.1 C.2.1 hX hbl hbA (lv_at hl 0 rfl) (lv_at hl 3 rfl) (k := 1) rfl (by omega) hL hS dL_338 dL_339 dL_340 dL_341 dL_342 ?_
  refine lf_one C (ws := ws1) (j := 84) (ia := 39) (n := 1) (As := [.int (xs (i + 1))]) (rest := []) lk_run.2 (ok_M_run_84 (by rw [hs1]; exact e2)) ⟨pe_r tf84, pe_i rfl, trivial⟩ rfl hl.1 hcs hsl (Nat.le_of_ble_eq_true rfl) dL_343 hw hP hD hS (fun y ws2 H locs hs2 hy hw hP hD hS => ?_)
  refine lv_pop C.1 C.2.1 dL_346 rfl ?_
  refine lv_goto (tgt := 830) C.1 C.2.1 dL_347 (by decide) ?_
  exact k ws2 H locs hw (by rw [hs2]; exact hJ2) hP hD hS
theorem le_6 (C : ev_cx p s m args meth c code 4 13 D tys aK aV b0) (hX : va_X b L xs s s.heap) (hbl : b < s.heap.size) (hbA : ¬ b0 ≤ b) (hL6 : i + 6 ≤ L) (hL : L < 2 ^ 31) (hi : i ≤ 3078) (hl : lv_has ls 4 [(0, .ref b), (1, .ref (ad 0)), (2, .ref (ad 84)), (3, .int (nI i))]) (hcs : cs ≤ 600000) (hsl : sl ≤ 7302250) (hw : ev_w tys tF ad ws) (hJ : WR i (sg ws) (sg ws)) (hP : va_P D vwCl ws H) (hD : va_D (fun q => b0 ≤ q) ws) (hS : va_S (fun q => b0 ≤ q) s.heap H locs) (k : le_go p l e s m args below meth c Q D tys b0 ad ls cs sl 830 (i + 1)) : W p l e room_1 s m args below meth c H locs cs sl Q (F0 m 350 ls []) := by
  obtain ⟨v, σ1, w, τ1, e1, e2, hJ2, hc⟩ := lt_tried (by omega : i ≤ 100000) (xs (i + 1)) (xs (i + 2)) (sg ws) hJ
  refine lv_aload_n C.1 C.2.1 dL_350 rfl (lv_at hl 1 rfl) ?_
  refine le_arg C.1 C.2.1 hX hbl hbA (lv_at hl 0 rfl) (lv_at hl 3 rfl) (k := 1) rfl (by omega) hL hS dL_351 dL_352 dL_353 dL_354 dL_355 ?_
  refine le_arg C.1 C.2.1 hX hbl hbA (lv_at hl 0 rfl) (lv_at hl 3 rfl) (k := 2) rfl (by omega) hL hS dL_356 dL_357 dL_358 dL_359 dL_360 ?_
  refine lf_one C (j := 0) (ia := 40) (n := 2) (As := [.int (xs (i + 1)), .int (xs (i + 2))]) (rest := []) lk_tried.1 (ok_X_tried_0 e1) ⟨pe_r tf0, pe_i rfl, pe_i rfl, trivial⟩ rfl hl.1 hcs hsl (by decide) dL_361 hw hP hD hS (fun x ws1 H locs hs1 hx hw hP hD hS => ?_)
  refine lv_pop C.1 C.2.1 dL_364 rfl ?_
  refine lv_aload_n C.1 C.2.1 dL_365 rfl (lv_at hl 2 rfl) ?_
  refine le_arg C.1 C.2.1 hX hbl hbA (lv_at hl 0 rfl) (lv_at hl 3 rfl) (k := 1) rfl (by omega) hL hS dL_366 dL_367 dL_368 dL_369 dL_370 ?_
  refine le_arg C.1 C.2.1 hX hbl hbA (lv_at hl 0 rfl) (lv_at hl 3 rfl) (k := 2) rfl (by omega) hL hS dL_371 dL_372 dL_373 dL_374 dL_375 ?_
  refine lf_one C (ws := ws1) (j := 84) (ia := 44) (n := 2) (As := [.int (xs (i + 1)), .int (xs (i + 2))]) (rest := []) lk_tried.2 (ok_M_tried_84 (by rw [hs1]; exact e2)) ⟨pe_r tf84, pe_i rfl, pe_i rfl, trivial⟩ rfl hl.1 hcs hsl (Nat.le_of_ble_eq_true rfl) dL_376 hw hP hD hS (fun y ws2 H locs hs2 hy hw hP hD hS => ?_)
  refine lv_pop C.1 C.2.1 dL_379 rfl ?_
  refine lv_goto (tgt := 830) C.1 C.2.1 dL_380 (by decide) ?_
  exact k ws2 H locs hw (by rw [hs2]; exact hJ2) hP hD hS
theorem le_7 (C : ev_cx p s m args meth c code 4 13 D tys aK aV b0) (hX : va_X b L xs s s.heap) (hbl : b < s.heap.size) (hbA : ¬ b0 ≤ b) (hL6 : i + 6 ≤ L) (hL : L < 2 ^ 31) (hi : i ≤ 3078) (hl : lv_has ls 4 [(0, .ref b), (1, .ref (ad 0)), (2, .ref (ad 84)), (3, .int (nI i))]) (hcs : cs ≤ 600000) (hsl : sl ≤ 7302250) (hw : ev_w tys tF ad ws) (hJ : WR i (sg ws) (sg ws)) (hP : va_P D vwCl ws H) (hD : va_D (fun q => b0 ≤ q) ws) (hS : va_S (fun q => b0 ≤ q) s.heap H locs) (k : le_go p l e s m args below meth c Q D tys b0 ad ls cs sl 830 (i + 1)) : W p l e room_1 s m args below meth c H locs cs sl Q (F0 m 383 ls []) := by
  obtain ⟨v, σ1, w, τ1, e1, e2, hJ2, hc⟩ := lt_lastRun (by omega : i ≤ 100000) (xs (i + 1)) (sg ws) hJ
  refine lv_aload_n C.1 C.2.1 dL_383 rfl (lv_at hl 1 rfl) ?_
  refine le_arg C.1 C.2.1 hX hbl hbA (lv_at hl 0 rfl) (lv_at hl 3 rfl) (k := 1) rfl (by omega) hL hS dL_384 dL_385 dL_386 dL_387 dL_388 ?_
  refine lf_one C (j := 0) (ia := 45) (n := 1) (As := [.int (xs (i + 1))]) (rest := []) lk_lastRun.1 (ok_X_lastRun_0 e1) ⟨pe_r tf0, pe_i rfl, trivial⟩ rfl hl.1 hcs hsl (by decide) dL_389 hw hP hD hS (fun x ws1 H locs hs1 hx hw hP hD hS => ?_)
  refine lv_pop C.1 C.2.1 dL_392 rfl ?_
  refine lv_aload_n C.1 C.2.1 dL_393 rfl (lv_at hl 2 rfl) ?_
  refine le_arg C.1 C.2.1 hX hbl hbA (lv_at hl 0 rfl) (lv_at hl 3 rfl) (k := 1) rfl (by omega) hL hS dL_394 dL_395 dL_396 dL_397 dL_398 ?_
  refine lf_one C (ws := ws1) (j := 84) (ia := 48) (n := 1) (As := [.int (xs (i + 1))]) (rest := []) lk_lastRun.2 (ok_M_lastRun_84 (by rw [hs1]; exact e2)) ⟨pe_r tf84, pe_i rfl, trivial⟩ rfl hl.1 hcs hsl (Nat.le_of_ble_eq_true rfl) dL_399 hw hP hD hS (fun y ws2 H locs hs2 hy hw hP hD hS => ?_)
  refine lv_pop C.1 C.2.1 dL_402 rfl ?_
  refine lv_goto (tgt := 830) C.1 C.2.1 dL_403 (by decide) ?_
  exact k ws2 H locs hw (by rw [hs2]; exact hJ2) hP hD hS
theorem le_8 (C : ev_cx p s m args meth c code 4 13 D tys aK aV b0) (hX : va_X b L xs s s.heap) (hbl : b < s.heap.size) (hbA : ¬ b0 ≤ b) (hL6 : i + 6 ≤ L) (hL : L < 2 ^ 31) (hi : i ≤ 3078) (hl : lv_has ls 4 [(0, .ref b), (1, .ref (ad 0)), (2, .ref (ad 84)), (3, .int (nI i))]) (hcs : cs ≤ 600000) (hsl : sl ≤ 7302250) (hw : ev_w tys tF ad ws) (hJ : WR i (sg ws) (sg ws)) (hP : va_P D vwCl ws H) (hD : va_D (fun q => b0 ≤ q) ws) (hS : va_S (fun q => b0 ≤ q) s.heap H locs) (k : le_go p l e s m args below meth c Q D tys b0 ad ls cs sl 830 (i + 1)) : W p l e room_1 s m args below meth c H locs cs sl Q (F0 m 406 ls []) := by
  obtain ⟨v, σ1, w, τ1, e1, e2, hJ2, hc⟩ := lt_opIs (by omega : i ≤ 100000) (xs (i + 1)) (xs (i + 2)) (sg ws) hJ
  refine lv_aload_n C.1 C.2.1 dL_406 rfl (lv_at hl 1 rfl) ?_
  refine le_arg C.1 C.2.1 hX hbl hbA (lv_at hl 0 rfl) (lv_at hl 3 rfl) (k := 1) rfl (by omega) hL hS dL_407 dL_408 dL_409 dL_410 dL_411 ?_
  refine le_arg C.1 C.2.1 hX hbl hbA (lv_at hl 0 rfl) (lv_at hl 3 rfl) (k := 2) rfl (by omega) hL hS dL_412 dL_413 dL_414 dL_415 dL_416 ?_
  refine lf_one C (j := 0) (ia := 49) (n := 2) (As := [.int (xs (i + 1)), .int (xs (i + 2))]) (rest := []) lk_opIs.1 (ok_X_opIs_0 e1) ⟨pe_r tf0, pe_i rfl, pe_i rfl, trivial⟩ rfl hl.1 hcs hsl (by decide) dL_417 hw hP hD hS (fun x ws1 H locs hs1 hx hw hP hD hS => ?_)
  refine lv_pop C.1 C.2.1 dL_420 rfl ?_
  refine lv_aload_n C.1 C.2.1 dL_421 rfl (lv_at hl 2 rfl) ?_
  refine le_arg C.1 C.2.1 hX hbl hbA (lv_at hl 0 rfl) (lv_at hl 3 rfl) (k := 1) rfl (by omega) hL hS dL_422 dL_423 dL_424 dL_425 dL_426 ?_
  refine le_arg C.1 C.2.1 hX hbl hbA (lv_at hl 0 rfl) (lv_at hl 3 rfl) (k := 2) rfl (by omega) hL hS dL_427 dL_428 dL_429 dL_430 dL_431 ?_
  refine lf_one C (ws := ws1) (j := 84) (ia := 52) (n := 2) (As := [.int (xs (i + 1)), .int (xs (i + 2))]) (rest := []) lk_opIs.2 (ok_M_opIs_84 (by rw [hs1]; exact e2)) ⟨pe_r tf84, pe_i rfl, pe_i rfl, trivial⟩ rfl hl.1 hcs hsl (Nat.le_of_ble_eq_true rfl) dL_432 hw hP hD hS (fun y ws2 H locs hs2 hy hw hP hD hS => ?_)
  refine lv_pop C.1 C.2.1 dL_435 rfl ?_
  refine lv_goto (tgt := 830) C.1 C.2.1 dL_436 (by decide) ?_
  exact k ws2 H locs hw (by rw [hs2]; exact hJ2) hP hD hS
theorem le_9 (C : ev_cx p s m args meth c code 4 13 D tys aK aV b0) (hX : va_X b L xs s s.heap) (hbl : b < s.heap.size) (hbA : ¬ b0 ≤ b) (hL6 : i + 6 ≤ L) (hL : L < 2 ^ 31) (hi : i ≤ 3078) (hl : lv_has ls 4 [(0, .ref b), (1, .ref (ad 0)), (2, .ref (ad 84)), (3, .int (nI i))]) (hcs : cs ≤ 600000) (hsl : sl ≤ 7302250) (hw : ev_w tys tF ad ws) (hJ : WR i (sg ws) (sg ws)) (hP : va_P D vwCl ws H) (hD : va_D (fun q => b0 ≤ q) ws) (hS : va_S (fun q => b0 ≤ q) s.heap H locs) (k : le_go p l e s m args below meth c Q D tys b0 ad ls cs sl 830 (i + 1)) : W p l e room_1 s m args below meth c H locs cs sl Q (F0 m 439 ls []) := by
  obtain ⟨v, σ1, w, τ1, e1, e2, hJ2, hc⟩ := lt_source (by omega : i ≤ 100000) (xs (i + 1)) (xs (i + 2)) (sg ws) hJ
  refine lv_aload_n C.1 C.2.1 dL_439 rfl (lv_at hl 1 rfl) ?_
  refine le_arg C.1 C.2.1 hX hbl hbA (lv_at hl 0 rfl) (lv_at hl 3 rfl) (k := 1) rfl (by omega) hL hS dL_440 dL_441 dL_442 dL_443 dL_444 ?_
  refine le_arg C.1 C.2.1 hX hbl hbA (lv_at hl 0 rfl) (lv_at hl 3 rfl) (k := 2) rfl (by omega) hL hS dL_445 dL_446 dL_447 dL_448 dL_449 ?_
  refine lf_one C (j := 0) (ia := 53) (n := 2) (As := [.int (xs (i + 1)), .int (xs (i + 2))]) (rest := []) lk_source.1 (ok_X_source_0 e1) ⟨pe_r tf0, pe_i rfl, pe_i rfl, trivial⟩ rfl hl.1 hcs hsl (by decide) dL_450 hw hP hD hS (fun x ws1 H locs hs1 hx hw hP hD hS => ?_)
  refine lv_pop C.1 C.2.1 dL_453 rfl ?_
  refine lv_aload_n C.1 C.2.1 dL_454 rfl (lv_at hl 2 rfl) ?_
  refine le_arg C.1 C.2.1 hX hbl hbA (lv_at hl 0 rfl) (lv_at hl 3 rfl) (k := 1) rfl (by omega) hL hS dL_455 dL_456 dL_457 dL_458 dL_459 ?_
  refine le_arg C.1 C.2.1 hX hbl hbA (lv_at hl 0 rfl) (lv_at hl 3 rfl) (k := 2) rfl (by omega) hL hS dL_460 dL_461 dL_462 dL_463 dL_464 ?_
  refine lf_one C (ws := ws1) (j := 84) (ia := 56) (n := 2) (As := [.int (xs (i + 1)), .int (xs (i + 2))]) (rest := []) lk_source.2 (ok_M_source_84 (by rw [hs1]; exact e2)) ⟨pe_r tf84, pe_i rfl, pe_i rfl, trivial⟩ rfl hl.1 hcs hsl (Nat.le_of_ble_eq_true rfl) dL_465 hw hP hD hS (fun y ws2 H locs hs2 hy hw hP hD hS => ?_)
  refine lv_pop C.1 C.2.1 dL_468 rfl ?_
  refine lv_goto (tgt := 830) C.1 C.2.1 dL_469 (by decide) ?_
  exact k ws2 H locs hw (by rw [hs2]; exact hJ2) hP hD hS
theorem le_10 (C : ev_cx p s m args meth c code 4 13 D tys aK aV b0) (hX : va_X b L xs s s.heap) (hbl : b < s.heap.size) (hbA : ¬ b0 ≤ b) (hL6 : i + 6 ≤ L) (hL : L < 2 ^ 31) (hi : i ≤ 3078) (hl : lv_has ls 4 [(0, .ref b), (1, .ref (ad 0)), (2, .ref (ad 84)), (3, .int (nI i))]) (hcs : cs ≤ 600000) (hsl : sl ≤ 7302250) (hw : ev_w tys tF ad ws) (hJ : WR i (sg ws) (sg ws)) (hP : va_P D vwCl ws H) (hD : va_D (fun q => b0 ≤ q) ws) (hS : va_S (fun q => b0 ≤ q) s.heap H locs) (k : le_go p l e s m args below meth c Q D tys b0 ad ls cs sl 830 (i + 1)) : W p l e room_1 s m args below meth c H locs cs sl Q (F0 m 472 ls []) := by
  obtain ⟨v, σ1, w, τ1, e1, e2, hJ2, hc⟩ := lt_now (by omega : i ≤ 100000) (xs (i + 1)) (sg ws) hJ
  refine lv_aload_n C.1 C.2.1 dL_472 rfl (lv_at hl 1 rfl) ?_
  refine le_arg C.1 C.2.1 hX hbl hbA (lv_at hl 0 rfl) (lv_at hl 3 rfl) (k := 1) rfl (by omega) hL hS dL_473 dL_474 dL_475 dL_476 dL_477 ?_
  refine lf_one C (j := 0) (ia := 57) (n := 1) (As := [.int (xs (i + 1))]) (rest := []) lk_now.1 (ok_X_now_0 e1) ⟨pe_r tf0, pe_i rfl, trivial⟩ rfl hl.1 hcs hsl (by decide) dL_478 hw hP hD hS (fun x ws1 H locs hs1 hx hw hP hD hS => ?_)
  refine lv_pop C.1 C.2.1 dL_481 rfl ?_
  refine lv_aload_n C.1 C.2.1 dL_482 rfl (lv_at hl 2 rfl) ?_
  refine le_arg C.1 C.2.1 hX hbl hbA (lv_at hl 0 rfl) (lv_at hl 3 rfl) (k := 1) rfl (by omega) hL hS dL_483 dL_484 dL_485 dL_486 dL_487 ?_
  refine lf_one C (ws := ws1) (j := 84) (ia := 60) (n := 1) (As := [.int (xs (i + 1))]) (rest := []) lk_now.2 (ok_M_now_84 (by rw [hs1]; exact e2)) ⟨pe_r tf84, pe_i rfl, trivial⟩ rfl hl.1 hcs hsl (Nat.le_of_ble_eq_true rfl) dL_488 hw hP hD hS (fun y ws2 H locs hs2 hy hw hP hD hS => ?_)
  refine lv_pop C.1 C.2.1 dL_491 rfl ?_
  refine lv_goto (tgt := 830) C.1 C.2.1 dL_492 (by decide) ?_
  exact k ws2 H locs hw (by rw [hs2]; exact hJ2) hP hD hS
theorem le_11 (C : ev_cx p s m args meth c code 4 13 D tys aK aV b0) (hX : va_X b L xs s s.heap) (hbl : b < s.heap.size) (hbA : ¬ b0 ≤ b) (hL6 : i + 6 ≤ L) (hL : L < 2 ^ 31) (hi : i ≤ 3078) (hl : lv_has ls 4 [(0, .ref b), (1, .ref (ad 0)), (2, .ref (ad 84)), (3, .int (nI i))]) (hcs : cs ≤ 600000) (hsl : sl ≤ 7302250) (hw : ev_w tys tF ad ws) (hJ : WR i (sg ws) (sg ws)) (hP : va_P D vwCl ws H) (hD : va_D (fun q => b0 ≤ q) ws) (hS : va_S (fun q => b0 ≤ q) s.heap H locs) (k : le_go p l e s m args below meth c Q D tys b0 ad ls cs sl 830 (i + 1)) : W p l e room_1 s m args below meth c H locs cs sl Q (F0 m 495 ls []) := by
  obtain ⟨v, σ1, w, τ1, e1, e2, hJ2, hc⟩ := lt_plain (by omega : i ≤ 100000) (xs (i + 1)) (sg ws) hJ
  refine lv_aload_n C.1 C.2.1 dL_495 rfl (lv_at hl 1 rfl) ?_
  refine le_arg C.1 C.2.1 hX hbl hbA (lv_at hl 0 rfl) (lv_at hl 3 rfl) (k := 1) rfl (by omega) hL hS dL_496 dL_497 dL_498 dL_499 dL_500 ?_
  refine lf_one C (j := 0) (ia := 61) (n := 1) (As := [.int (xs (i + 1))]) (rest := []) lk_plain.1 (ok_X_plain_0 e1) ⟨pe_r tf0, pe_i rfl, trivial⟩ rfl hl.1 hcs hsl (by decide) dL_501 hw hP hD hS (fun x ws1 H locs hs1 hx hw hP hD hS => ?_)
  refine lv_pop C.1 C.2.1 dL_504 rfl ?_
  refine lv_aload_n C.1 C.2.1 dL_505 rfl (lv_at hl 2 rfl) ?_
  refine le_arg C.1 C.2.1 hX hbl hbA (lv_at hl 0 rfl) (lv_at hl 3 rfl) (k := 1) rfl (by omega) hL hS dL_506 dL_507 dL_508 dL_509 dL_510 ?_
  refine lf_one C (ws := ws1) (j := 84) (ia := 64) (n := 1) (As := [.int (xs (i + 1))]) (rest := []) lk_plain.2 (ok_M_plain_84 (by rw [hs1]; exact e2)) ⟨pe_r tf84, pe_i rfl, trivial⟩ rfl hl.1 hcs hsl (Nat.le_of_ble_eq_true rfl) dL_511 hw hP hD hS (fun y ws2 H locs hs2 hy hw hP hD hS => ?_)
  refine lv_pop C.1 C.2.1 dL_514 rfl ?_
  refine lv_goto (tgt := 830) C.1 C.2.1 dL_515 (by decide) ?_
  exact k ws2 H locs hw (by rw [hs2]; exact hJ2) hP hD hS
theorem le_12 (C : ev_cx p s m args meth c code 4 13 D tys aK aV b0) (hX : va_X b L xs s s.heap) (hbl : b < s.heap.size) (hbA : ¬ b0 ≤ b) (hL6 : i + 6 ≤ L) (hL : L < 2 ^ 31) (hi : i ≤ 3078) (hl : lv_has ls 4 [(0, .ref b), (1, .ref (ad 0)), (2, .ref (ad 84)), (3, .int (nI i))]) (hcs : cs ≤ 600000) (hsl : sl ≤ 7302250) (hw : ev_w tys tF ad ws) (hJ : WR i (sg ws) (sg ws)) (hP : va_P D vwCl ws H) (hD : va_D (fun q => b0 ≤ q) ws) (hS : va_S (fun q => b0 ≤ q) s.heap H locs) (k : le_go p l e s m args below meth c Q D tys b0 ad ls cs sl 830 (i + 1)) : W p l e room_1 s m args below meth c H locs cs sl Q (F0 m 518 ls []) := by
  obtain ⟨v, σ1, w, τ1, e1, e2, hJ2, hc⟩ := lt_unlike (by omega : i ≤ 100000) (xs (i + 1)) (sg ws) hJ
  refine lv_aload_n C.1 C.2.1 dL_518 rfl (lv_at hl 1 rfl) ?_
  refine le_arg C.1 C.2.1 hX hbl hbA (lv_at hl 0 rfl) (lv_at hl 3 rfl) (k := 1) rfl (by omega) hL hS dL_519 dL_520 dL_521 dL_522 dL_523 ?_
  refine lf_one C (j := 0) (ia := 65) (n := 1) (As := [.int (xs (i + 1))]) (rest := []) lk_unlike.1 (ok_X_unlike_0 e1) ⟨pe_r tf0, pe_i rfl, trivial⟩ rfl hl.1 hcs hsl (by decide) dL_524 hw hP hD hS (fun x ws1 H locs hs1 hx hw hP hD hS => ?_)
  refine lv_pop C.1 C.2.1 dL_527 rfl ?_
  refine lv_aload_n C.1 C.2.1 dL_528 rfl (lv_at hl 2 rfl) ?_
  refine le_arg C.1 C.2.1 hX hbl hbA (lv_at hl 0 rfl) (lv_at hl 3 rfl) (k := 1) rfl (by omega) hL hS dL_529 dL_530 dL_531 dL_532 dL_533 ?_
  refine lf_one C (ws := ws1) (j := 84) (ia := 68) (n := 1) (As := [.int (xs (i + 1))]) (rest := []) lk_unlike.2 (ok_M_unlike_84 (by rw [hs1]; exact e2)) ⟨pe_r tf84, pe_i rfl, trivial⟩ rfl hl.1 hcs hsl (Nat.le_of_ble_eq_true rfl) dL_534 hw hP hD hS (fun y ws2 H locs hs2 hy hw hP hD hS => ?_)
  refine lv_pop C.1 C.2.1 dL_537 rfl ?_
  refine lv_goto (tgt := 830) C.1 C.2.1 dL_538 (by decide) ?_
  exact k ws2 H locs hw (by rw [hs2]; exact hJ2) hP hD hS
theorem le_13 (C : ev_cx p s m args meth c code 4 13 D tys aK aV b0) (hX : va_X b L xs s s.heap) (hbl : b < s.heap.size) (hbA : ¬ b0 ≤ b) (hL6 : i + 6 ≤ L) (hL : L < 2 ^ 31) (hi : i ≤ 3078) (hl : lv_has ls 4 [(0, .ref b), (1, .ref (ad 0)), (2, .ref (ad 84)), (3, .int (nI i))]) (hcs : cs ≤ 600000) (hsl : sl ≤ 7302250) (hw : ev_w tys tF ad ws) (hJ : WR i (sg ws) (sg ws)) (hP : va_P D vwCl ws H) (hD : va_D (fun q => b0 ≤ q) ws) (hS : va_S (fun q => b0 ≤ q) s.heap H locs) (k : le_go p l e s m args below meth c Q D tys b0 ad ls cs sl 830 (i + 1)) : W p l e room_1 s m args below meth c H locs cs sl Q (F0 m 541 ls []) := by
  obtain ⟨v, σ1, w, τ1, e1, e2, hJ2, hc⟩ := lt_fastest (by omega : i ≤ 100000) (xs (i + 1)) (sg ws) hJ
  refine lv_aload_n C.1 C.2.1 dL_541 rfl (lv_at hl 1 rfl) ?_
  refine le_arg C.1 C.2.1 hX hbl hbA (lv_at hl 0 rfl) (lv_at hl 3 rfl) (k := 1) rfl (by omega) hL hS dL_542 dL_543 dL_544 dL_545 dL_546 ?_
  refine lf_one C (j := 0) (ia := 69) (n := 1) (As := [.int (xs (i + 1))]) (rest := []) lk_fastest.1 (ok_X_fastest_0 e1) ⟨pe_r tf0, pe_i rfl, trivial⟩ rfl hl.1 hcs hsl (by decide) dL_547 hw hP hD hS (fun x ws1 H locs hs1 hx hw hP hD hS => ?_)
  refine lv_pop C.1 C.2.1 dL_550 rfl ?_
  refine lv_aload_n C.1 C.2.1 dL_551 rfl (lv_at hl 2 rfl) ?_
  refine le_arg C.1 C.2.1 hX hbl hbA (lv_at hl 0 rfl) (lv_at hl 3 rfl) (k := 1) rfl (by omega) hL hS dL_552 dL_553 dL_554 dL_555 dL_556 ?_
  refine lf_one C (ws := ws1) (j := 84) (ia := 72) (n := 1) (As := [.int (xs (i + 1))]) (rest := []) lk_fastest.2 (ok_M_fastest_84 (by rw [hs1]; exact e2)) ⟨pe_r tf84, pe_i rfl, trivial⟩ rfl hl.1 hcs hsl (Nat.le_of_ble_eq_true rfl) dL_557 hw hP hD hS (fun y ws2 H locs hs2 hy hw hP hD hS => ?_)
  refine lv_pop C.1 C.2.1 dL_560 rfl ?_
  refine lv_goto (tgt := 830) C.1 C.2.1 dL_561 (by decide) ?_
  exact k ws2 H locs hw (by rw [hs2]; exact hJ2) hP hD hS
theorem le_14 (C : ev_cx p s m args meth c code 4 13 D tys aK aV b0) (hX : va_X b L xs s s.heap) (hbl : b < s.heap.size) (hbA : ¬ b0 ≤ b) (hL6 : i + 6 ≤ L) (hL : L < 2 ^ 31) (hi : i ≤ 3078) (hl : lv_has ls 4 [(0, .ref b), (1, .ref (ad 0)), (2, .ref (ad 84)), (3, .int (nI i))]) (hcs : cs ≤ 600000) (hsl : sl ≤ 7302250) (hw : ev_w tys tF ad ws) (hJ : WR i (sg ws) (sg ws)) (hP : va_P D vwCl ws H) (hD : va_D (fun q => b0 ≤ q) ws) (hS : va_S (fun q => b0 ≤ q) s.heap H locs) (k : le_go p l e s m args below meth c Q D tys b0 ad ls cs sl 830 (i + 1)) : W p l e room_1 s m args below meth c H locs cs sl Q (F0 m 564 ls []) := by
  obtain ⟨v, σ1, w, τ1, e1, e2, hJ2, hc⟩ := lt_cautious (by omega : i ≤ 100000) (xs (i + 1)) (xs (i + 2)) (sg ws) hJ
  refine lv_aload_n C.1 C.2.1 dL_564 rfl (lv_at hl 1 rfl) ?_
  refine le_arg C.1 C.2.1 hX hbl hbA (lv_at hl 0 rfl) (lv_at hl 3 rfl) (k := 1) rfl (by omega) hL hS dL_565 dL_566 dL_567 dL_568 dL_569 ?_
  refine le_arg C.1 C.2.1 hX hbl hbA (lv_at hl 0 rfl) (lv_at hl 3 rfl) (k := 2) rfl (by omega) hL hS dL_570 dL_571 dL_572 dL_573 dL_574 ?_
  refine lf_one C (j := 0) (ia := 73) (n := 2) (As := [.int (xs (i + 1)), .int (xs (i + 2))]) (rest := []) lk_cautious.1 (ok_X_cautious_0 e1) ⟨pe_r tf0, pe_i rfl, pe_i rfl, trivial⟩ rfl hl.1 hcs hsl (by decide) dL_575 hw hP hD hS (fun x ws1 H locs hs1 hx hw hP hD hS => ?_)
  refine lv_pop C.1 C.2.1 dL_578 rfl ?_
  refine lv_aload_n C.1 C.2.1 dL_579 rfl (lv_at hl 2 rfl) ?_
  refine le_arg C.1 C.2.1 hX hbl hbA (lv_at hl 0 rfl) (lv_at hl 3 rfl) (k := 1) rfl (by omega) hL hS dL_580 dL_581 dL_582 dL_583 dL_584 ?_
  refine le_arg C.1 C.2.1 hX hbl hbA (lv_at hl 0 rfl) (lv_at hl 3 rfl) (k := 2) rfl (by omega) hL hS dL_585 dL_586 dL_587 dL_588 dL_589 ?_
  refine lf_one C (ws := ws1) (j := 84) (ia := 76) (n := 2) (As := [.int (xs (i + 1)), .int (xs (i + 2))]) (rest := []) lk_cautious.2 (ok_M_cautious_84 (by rw [hs1]; exact e2)) ⟨pe_r tf84, pe_i rfl, pe_i rfl, trivial⟩ rfl hl.1 hcs hsl (Nat.le_of_ble_eq_true rfl) dL_590 hw hP hD hS (fun y ws2 H locs hs2 hy hw hP hD hS => ?_)
  refine lv_pop C.1 C.2.1 dL_593 rfl ?_
  refine lv_goto (tgt := 830) C.1 C.2.1 dL_594 (by decide) ?_
  exact k ws2 H locs hw (by rw [hs2]; exact hJ2) hP hD hS
theorem le_15 (C : ev_cx p s m args meth c code 4 13 D tys aK aV b0) (hX : va_X b L xs s s.heap) (hbl : b < s.heap.size) (hbA : ¬ b0 ≤ b) (hL6 : i + 6 ≤ L) (hL : L < 2 ^ 31) (hi : i ≤ 3078) (hl : lv_has ls 4 [(0, .ref b), (1, .ref (ad 0)), (2, .ref (ad 84)), (3, .int (nI i))]) (hcs : cs ≤ 600000) (hsl : sl ≤ 7302250) (hw : ev_w tys tF ad ws) (hJ : WR i (sg ws) (sg ws)) (hP : va_P D vwCl ws H) (hD : va_D (fun q => b0 ≤ q) ws) (hS : va_S (fun q => b0 ≤ q) s.heap H locs) (k : le_go p l e s m args below meth c Q D tys b0 ad ls cs sl 830 (i + 1)) : W p l e room_1 s m args below meth c H locs cs sl Q (F0 m 597 ls []) := by
  obtain ⟨v, σ1, w, τ1, e1, e2, hJ2, hc⟩ := lt_worst (by omega : i ≤ 100000) (xs (i + 1)) (sg ws) hJ
  refine lv_aload_n C.1 C.2.1 dL_597 rfl (lv_at hl 1 rfl) ?_
  refine le_arg C.1 C.2.1 hX hbl hbA (lv_at hl 0 rfl) (lv_at hl 3 rfl) (k := 1) rfl (by omega) hL hS dL_598 dL_599 dL_600 dL_601 dL_602 ?_
  refine lf_one C (j := 0) (ia := 77) (n := 1) (As := [.int (xs (i + 1))]) (rest := []) lk_worst.1 (ok_X_worst_0 e1) ⟨pe_r tf0, pe_i rfl, trivial⟩ rfl hl.1 hcs hsl (by decide) dL_603 hw hP hD hS (fun x ws1 H locs hs1 hx hw hP hD hS => ?_)
  refine lv_pop C.1 C.2.1 dL_606 rfl ?_
  refine lv_aload_n C.1 C.2.1 dL_607 rfl (lv_at hl 2 rfl) ?_
  refine le_arg C.1 C.2.1 hX hbl hbA (lv_at hl 0 rfl) (lv_at hl 3 rfl) (k := 1) rfl (by omega) hL hS dL_608 dL_609 dL_610 dL_611 dL_612 ?_
  refine lf_one C (ws := ws1) (j := 84) (ia := 80) (n := 1) (As := [.int (xs (i + 1))]) (rest := []) lk_worst.2 (ok_M_worst_84 (by rw [hs1]; exact e2)) ⟨pe_r tf84, pe_i rfl, trivial⟩ rfl hl.1 hcs hsl (Nat.le_of_ble_eq_true rfl) dL_613 hw hP hD hS (fun y ws2 H locs hs2 hy hw hP hD hS => ?_)
  refine lv_pop C.1 C.2.1 dL_616 rfl ?_
  refine lv_goto (tgt := 830) C.1 C.2.1 dL_617 (by decide) ?_
  exact k ws2 H locs hw (by rw [hs2]; exact hJ2) hP hD hS
theorem le_16 (C : ev_cx p s m args meth c code 4 13 D tys aK aV b0) (hX : va_X b L xs s s.heap) (hbl : b < s.heap.size) (hbA : ¬ b0 ≤ b) (hL6 : i + 6 ≤ L) (hL : L < 2 ^ 31) (hi : i ≤ 3078) (hl : lv_has ls 4 [(0, .ref b), (1, .ref (ad 0)), (2, .ref (ad 84)), (3, .int (nI i))]) (hcs : cs ≤ 600000) (hsl : sl ≤ 7302250) (hw : ev_w tys tF ad ws) (hJ : WR i (sg ws) (sg ws)) (hP : va_P D vwCl ws H) (hD : va_D (fun q => b0 ≤ q) ws) (hS : va_S (fun q => b0 ≤ q) s.heap H locs) (k : le_go p l e s m args below meth c Q D tys b0 ad ls cs sl 830 (i + 1)) : W p l e room_1 s m args below meth c H locs cs sl Q (F0 m 620 ls []) := by
  obtain ⟨v, σ1, w, τ1, e1, e2, hJ2, hc⟩ := lt_deep (by omega : i ≤ 100000) (sg ws) hJ
  refine lv_aload_n C.1 C.2.1 dL_620 rfl (lv_at hl 1 rfl) ?_
  refine lf_one C (j := 0) (ia := 81) (n := 0) (As := []) (rest := []) lk_deep.1 (ok_X_deep_0 e1) ⟨pe_r tf0, trivial⟩ rfl hl.1 hcs hsl (by decide) dL_621 hw hP hD hS (fun x ws1 H locs hs1 hx hw hP hD hS => ?_)
  refine lv_pop C.1 C.2.1 dL_624 rfl ?_
  refine lv_aload_n C.1 C.2.1 dL_625 rfl (lv_at hl 2 rfl) ?_
  refine lf_one C (ws := ws1) (j := 84) (ia := 85) (n := 0) (As := []) (rest := []) lk_deep.2 (ok_M_deep_84 (by rw [hs1]; exact e2)) ⟨pe_r tf84, trivial⟩ rfl hl.1 hcs hsl (Nat.le_of_ble_eq_true rfl) dL_626 hw hP hD hS (fun y ws2 H locs hs2 hy hw hP hD hS => ?_)
  refine lv_pop C.1 C.2.1 dL_629 rfl ?_
  refine lv_goto (tgt := 830) C.1 C.2.1 dL_630 (by decide) ?_
  exact k ws2 H locs hw (by rw [hs2]; exact hJ2) hP hD hS
theorem le_17 (C : ev_cx p s m args meth c code 4 13 D tys aK aV b0) (hX : va_X b L xs s s.heap) (hbl : b < s.heap.size) (hbA : ¬ b0 ≤ b) (hL6 : i + 6 ≤ L) (hL : L < 2 ^ 31) (hi : i ≤ 3078) (hl : lv_has ls 4 [(0, .ref b), (1, .ref (ad 0)), (2, .ref (ad 84)), (3, .int (nI i))]) (hcs : cs ≤ 600000) (hsl : sl ≤ 7302250) (hw : ev_w tys tF ad ws) (hJ : WR i (sg ws) (sg ws)) (hP : va_P D vwCl ws H) (hD : va_D (fun q => b0 ≤ q) ws) (hS : va_S (fun q => b0 ≤ q) s.heap H locs) (k : le_go p l e s m args below meth c Q D tys b0 ad ls cs sl 830 (i + 1)) : W p l e room_1 s m args below meth c H locs cs sl Q (F0 m 633 ls []) := by
  obtain ⟨v, σ1, w, τ1, e1, e2, hJ2, hc⟩ := lt_mix (by omega : i ≤ 100000) (sg ws) hJ
  refine lv_aload_n C.1 C.2.1 dL_633 rfl (lv_at hl 1 rfl) ?_
  refine lf_one C (j := 0) (ia := 86) (n := 0) (As := []) (rest := []) lk_mix.1 (ok_X_mix_0 e1) ⟨pe_r tf0, trivial⟩ rfl hl.1 hcs hsl (by decide) dL_634 hw hP hD hS (fun x ws1 H locs hs1 hx hw hP hD hS => ?_)
  refine lv_pop C.1 C.2.1 dL_637 rfl ?_
  refine lv_aload_n C.1 C.2.1 dL_638 rfl (lv_at hl 2 rfl) ?_
  refine lf_one C (ws := ws1) (j := 84) (ia := 89) (n := 0) (As := []) (rest := []) lk_mix.2 (ok_M_mix_84 (by rw [hs1]; exact e2)) ⟨pe_r tf84, trivial⟩ rfl hl.1 hcs hsl (Nat.le_of_ble_eq_true rfl) dL_639 hw hP hD hS (fun y ws2 H locs hs2 hy hw hP hD hS => ?_)
  refine lv_pop C.1 C.2.1 dL_642 rfl ?_
  refine lv_goto (tgt := 830) C.1 C.2.1 dL_643 (by decide) ?_
  exact k ws2 H locs hw (by rw [hs2]; exact hJ2) hP hD hS
theorem le_18 (C : ev_cx p s m args meth c code 4 13 D tys aK aV b0) (hX : va_X b L xs s s.heap) (hbl : b < s.heap.size) (hbA : ¬ b0 ≤ b) (hL6 : i + 6 ≤ L) (hL : L < 2 ^ 31) (hi : i ≤ 3078) (hl : lv_has ls 4 [(0, .ref b), (1, .ref (ad 0)), (2, .ref (ad 84)), (3, .int (nI i))]) (hcs : cs ≤ 600000) (hsl : sl ≤ 7302250) (hw : ev_w tys tF ad ws) (hJ : WR i (sg ws) (sg ws)) (hP : va_P D vwCl ws H) (hD : va_D (fun q => b0 ≤ q) ws) (hS : va_S (fun q => b0 ≤ q) s.heap H locs) (k : le_go p l e s m args below meth c Q D tys b0 ad ls cs sl 830 (i + 1)) : W p l e room_1 s m args below meth c H locs cs sl Q (F0 m 646 ls []) := by
  obtain ⟨v, σ1, w, τ1, e1, e2, hJ2, hc⟩ := lt_watch (by omega : i ≤ 100000) (xs (i + 1)) (xs (i + 2)) (sg ws) hJ
  refine lv_aload_n C.1 C.2.1 dL_646 rfl (lv_at hl 1 rfl) ?_
  refine le_arg C.1 C.2.1 hX hbl hbA (lv_at hl 0 rfl) (lv_at hl 3 rfl) (k := 1) rfl (by omega) hL hS dL_647 dL_648 dL_649 dL_650 dL_651 ?_
  refine le_arg C.1 C.2.1 hX hbl hbA (lv_at hl 0 rfl) (lv_at hl 3 rfl) (k := 2) rfl (by omega) hL hS dL_652 dL_653 dL_654 dL_655 dL_656 ?_
  refine lf_one C (j := 0) (ia := 90) (n := 2) (As := [.int (xs (i + 1)), .int (xs (i + 2))]) (rest := []) lk_watch.1 (ok_X_watch_0 e1) ⟨pe_r tf0, pe_i rfl, pe_i rfl, trivial⟩ rfl hl.1 hcs hsl (by decide) dL_657 hw hP hD hS (fun x ws1 H locs hs1 hx hw hP hD hS => ?_)
  refine lv_pop C.1 C.2.1 dL_660 rfl ?_
  refine lv_aload_n C.1 C.2.1 dL_661 rfl (lv_at hl 2 rfl) ?_
  refine le_arg C.1 C.2.1 hX hbl hbA (lv_at hl 0 rfl) (lv_at hl 3 rfl) (k := 1) rfl (by omega) hL hS dL_662 dL_663 dL_664 dL_665 dL_666 ?_
  refine le_arg C.1 C.2.1 hX hbl hbA (lv_at hl 0 rfl) (lv_at hl 3 rfl) (k := 2) rfl (by omega) hL hS dL_667 dL_668 dL_669 dL_670 dL_671 ?_
  refine lf_one C (ws := ws1) (j := 84) (ia := 93) (n := 2) (As := [.int (xs (i + 1)), .int (xs (i + 2))]) (rest := []) lk_watch.2 (ok_M_watch_84 (by rw [hs1]; exact e2)) ⟨pe_r tf84, pe_i rfl, pe_i rfl, trivial⟩ rfl hl.1 hcs hsl (Nat.le_of_ble_eq_true rfl) dL_672 hw hP hD hS (fun y ws2 H locs hs2 hy hw hP hD hS => ?_)
  refine lv_pop C.1 C.2.1 dL_675 rfl ?_
  refine lv_goto (tgt := 830) C.1 C.2.1 dL_676 (by decide) ?_
  exact k ws2 H locs hw (by rw [hs2]; exact hJ2) hP hD hS
theorem le_19 (C : ev_cx p s m args meth c code 4 13 D tys aK aV b0) (hX : va_X b L xs s s.heap) (hbl : b < s.heap.size) (hbA : ¬ b0 ≤ b) (hL6 : i + 6 ≤ L) (hL : L < 2 ^ 31) (hi : i ≤ 3078) (hl : lv_has ls 4 [(0, .ref b), (1, .ref (ad 0)), (2, .ref (ad 84)), (3, .int (nI i))]) (hcs : cs ≤ 600000) (hsl : sl ≤ 7302250) (hw : ev_w tys tF ad ws) (hJ : WR i (sg ws) (sg ws)) (hP : va_P D vwCl ws H) (hD : va_D (fun q => b0 ≤ q) ws) (hS : va_S (fun q => b0 ≤ q) s.heap H locs) (k : le_go p l e s m args below meth c Q D tys b0 ad ls cs sl 830 (i + 1)) : W p l e room_1 s m args below meth c H locs cs sl Q (F0 m 679 ls []) := by
  obtain ⟨v, σ1, w, τ1, e1, e2, hJ2, hc⟩ := lt_watched (by omega : i ≤ 100000) (xs (i + 1)) (xs (i + 2)) (xs (i + 3)) (sg ws) hJ
  refine lv_aload_n C.1 C.2.1 dL_679 rfl (lv_at hl 1 rfl) ?_
  refine le_arg C.1 C.2.1 hX hbl hbA (lv_at hl 0 rfl) (lv_at hl 3 rfl) (k := 1) rfl (by omega) hL hS dL_680 dL_681 dL_682 dL_683 dL_684 ?_
  refine le_arg C.1 C.2.1 hX hbl hbA (lv_at hl 0 rfl) (lv_at hl 3 rfl) (k := 2) rfl (by omega) hL hS dL_685 dL_686 dL_687 dL_688 dL_689 ?_
  refine le_arg C.1 C.2.1 hX hbl hbA (lv_at hl 0 rfl) (lv_at hl 3 rfl) (k := 3) rfl (by omega) hL hS dL_690 dL_691 dL_692 dL_693 dL_694 ?_
  refine lf_one C (j := 0) (ia := 94) (n := 3) (As := [.int (xs (i + 1)), .int (xs (i + 2)), .int (xs (i + 3))]) (rest := []) lk_watched.1 (ok_X_watched_0 e1) ⟨pe_r tf0, pe_i rfl, pe_i rfl, pe_i rfl, trivial⟩ rfl hl.1 hcs hsl (by decide) dL_695 hw hP hD hS (fun x ws1 H locs hs1 hx hw hP hD hS => ?_)
  refine lv_pop C.1 C.2.1 dL_698 rfl ?_
  refine lv_aload_n C.1 C.2.1 dL_699 rfl (lv_at hl 2 rfl) ?_
  refine le_arg C.1 C.2.1 hX hbl hbA (lv_at hl 0 rfl) (lv_at hl 3 rfl) (k := 1) rfl (by omega) hL hS dL_700 dL_701 dL_702 dL_703 dL_704 ?_
  refine le_arg C.1 C.2.1 hX hbl hbA (lv_at hl 0 rfl) (lv_at hl 3 rfl) (k := 2) rfl (by omega) hL hS dL_705 dL_706 dL_707 dL_708 dL_709 ?_
  refine le_arg C.1 C.2.1 hX hbl hbA (lv_at hl 0 rfl) (lv_at hl 3 rfl) (k := 3) rfl (by omega) hL hS dL_710 dL_711 dL_712 dL_713 dL_714 ?_
  refine lf_one C (ws := ws1) (j := 84) (ia := 98) (n := 3) (As := [.int (xs (i + 1)), .int (xs (i + 2)), .int (xs (i + 3))]) (rest := []) lk_watched.2 (ok_M_watched_84 (by rw [hs1]; exact e2)) ⟨pe_r tf84, pe_i rfl, pe_i rfl, pe_i rfl, trivial⟩ rfl hl.1 hcs hsl (Nat.le_of_ble_eq_true rfl) dL_715 hw hP hD hS (fun y ws2 H locs hs2 hy hw hP hD hS => ?_)
  refine lv_pop C.1 C.2.1 dL_718 rfl ?_
  refine lv_goto (tgt := 830) C.1 C.2.1 dL_719 (by decide) ?_
  exact k ws2 H locs hw (by rw [hs2]; exact hJ2) hP hD hS
theorem le_20 (C : ev_cx p s m args meth c code 4 13 D tys aK aV b0) (hX : va_X b L xs s s.heap) (hbl : b < s.heap.size) (hbA : ¬ b0 ≤ b) (hL6 : i + 6 ≤ L) (hL : L < 2 ^ 31) (hi : i ≤ 3078) (hl : lv_has ls 4 [(0, .ref b), (1, .ref (ad 0)), (2, .ref (ad 84)), (3, .int (nI i))]) (hcs : cs ≤ 600000) (hsl : sl ≤ 7302250) (hw : ev_w tys tF ad ws) (hJ : WR i (sg ws) (sg ws)) (hP : va_P D vwCl ws H) (hD : va_D (fun q => b0 ≤ q) ws) (hS : va_S (fun q => b0 ≤ q) s.heap H locs) (k : le_go p l e s m args below meth c Q D tys b0 ad ls cs sl 830 (i + 1)) : W p l e room_1 s m args below meth c H locs cs sl Q (F0 m 722 ls []) := by
  obtain ⟨v, σ1, w, τ1, e1, e2, hJ2, hc⟩ := lt_forget (by omega : i ≤ 100000) (sg ws) hJ
  refine lv_aload_n C.1 C.2.1 dL_722 rfl (lv_at hl 1 rfl) ?_
  refine lf_one C (j := 0) (ia := 99) (n := 0) (As := []) (rest := []) lk_forget.1 (ok_X_forget_0 e1) ⟨pe_r tf0, trivial⟩ rfl hl.1 hcs hsl (by decide) dL_723 hw hP hD hS (fun x ws1 H locs hs1 hx hw hP hD hS => ?_)
  refine lv_pop C.1 C.2.1 dL_726 rfl ?_
  refine lv_aload_n C.1 C.2.1 dL_727 rfl (lv_at hl 2 rfl) ?_
  refine lf_one C (ws := ws1) (j := 84) (ia := 102) (n := 0) (As := []) (rest := []) lk_forget.2 (ok_M_forget_84 (by rw [hs1]; exact e2)) ⟨pe_r tf84, trivial⟩ rfl hl.1 hcs hsl (Nat.le_of_ble_eq_true rfl) dL_728 hw hP hD hS (fun y ws2 H locs hs2 hy hw hP hD hS => ?_)
  refine lv_pop C.1 C.2.1 dL_731 rfl ?_
  refine lv_goto (tgt := 830) C.1 C.2.1 dL_732 (by decide) ?_
  exact k ws2 H locs hw (by rw [hs2]; exact hJ2) hP hD hS
theorem le_21 (C : ev_cx p s m args meth c code 4 13 D tys aK aV b0) (hX : va_X b L xs s s.heap) (hbl : b < s.heap.size) (hbA : ¬ b0 ≤ b) (hL6 : i + 6 ≤ L) (hL : L < 2 ^ 31) (hi : i ≤ 3078) (hl : lv_has ls 4 [(0, .ref b), (1, .ref (ad 0)), (2, .ref (ad 84)), (3, .int (nI i))]) (hcs : cs ≤ 600000) (hsl : sl ≤ 7302250) (hw : ev_w tys tF ad ws) (hJ : WR i (sg ws) (sg ws)) (hP : va_P D vwCl ws H) (hD : va_D (fun q => b0 ≤ q) ws) (hS : va_S (fun q => b0 ≤ q) s.heap H locs) (k : le_go p l e s m args below meth c Q D tys b0 ad ls cs sl 830 (i + 1)) : W p l e room_1 s m args below meth c H locs cs sl Q (F0 m 735 ls []) := by
  obtain ⟨v, σ1, w, τ1, e1, e2, hJ2, hc⟩ := lt_seed (by omega : i ≤ 100000) (xs (i + 1)) (sg ws) hJ
  refine lv_aload_n C.1 C.2.1 dL_735 rfl (lv_at hl 1 rfl) ?_
  refine le_arg C.1 C.2.1 hX hbl hbA (lv_at hl 0 rfl) (lv_at hl 3 rfl) (k := 1) rfl (by omega) hL hS dL_736 dL_737 dL_738 dL_739 dL_740 ?_
  refine lf_one C (j := 0) (ia := 103) (n := 1) (As := [.int (xs (i + 1))]) (rest := []) lk_seed.1 (ok_X_seed_0 e1) ⟨pe_r tf0, pe_i rfl, trivial⟩ rfl hl.1 hcs hsl (by decide) dL_741 hw hP hD hS (fun x ws1 H locs hs1 hx hw hP hD hS => ?_)
  refine lv_pop C.1 C.2.1 dL_744 rfl ?_
  refine lv_aload_n C.1 C.2.1 dL_745 rfl (lv_at hl 2 rfl) ?_
  refine le_arg C.1 C.2.1 hX hbl hbA (lv_at hl 0 rfl) (lv_at hl 3 rfl) (k := 1) rfl (by omega) hL hS dL_746 dL_747 dL_748 dL_749 dL_750 ?_
  refine lf_one C (ws := ws1) (j := 84) (ia := 107) (n := 1) (As := [.int (xs (i + 1))]) (rest := []) lk_seed.2 (ok_M_seed_84 (by rw [hs1]; exact e2)) ⟨pe_r tf84, pe_i rfl, trivial⟩ rfl hl.1 hcs hsl (Nat.le_of_ble_eq_true rfl) dL_751 hw hP hD hS (fun y ws2 H locs hs2 hy hw hP hD hS => ?_)
  refine lv_pop C.1 C.2.1 dL_754 rfl ?_
  refine lv_goto (tgt := 830) C.1 C.2.1 dL_755 (by decide) ?_
  exact k ws2 H locs hw (by rw [hs2]; exact hJ2) hP hD hS
theorem le_22 (C : ev_cx p s m args meth c code 4 13 D tys aK aV b0) (hX : va_X b L xs s s.heap) (hbl : b < s.heap.size) (hbA : ¬ b0 ≤ b) (hL6 : i + 6 ≤ L) (hL : L < 2 ^ 31) (hi : i ≤ 3078) (hl : lv_has ls 4 [(0, .ref b), (1, .ref (ad 0)), (2, .ref (ad 84)), (3, .int (nI i))]) (hcs : cs ≤ 600000) (hsl : sl ≤ 7302250) (hw : ev_w tys tF ad ws) (hJ : WR i (sg ws) (sg ws)) (hP : va_P D vwCl ws H) (hD : va_D (fun q => b0 ≤ q) ws) (hS : va_S (fun q => b0 ≤ q) s.heap H locs) (k : le_go p l e s m args below meth c Q D tys b0 ad ls cs sl 830 (i + 1)) : W p l e room_1 s m args below meth c H locs cs sl Q (F0 m 758 ls []) := by
  obtain ⟨v, σ1, w, τ1, e1, e2, hJ2, hc⟩ := lt_keep (by omega : i ≤ 100000) (sg ws) hJ
  refine lv_aload_n C.1 C.2.1 dL_758 rfl (lv_at hl 1 rfl) ?_
  refine lf_one C (j := 0) (ia := 108) (n := 0) (As := []) (rest := []) lk_keep.1 (ok_X_keep_0 e1) ⟨pe_r tf0, trivial⟩ rfl hl.1 hcs hsl (by decide) dL_759 hw hP hD hS (fun x ws1 H locs hs1 hx hw hP hD hS => ?_)
  refine lv_pop C.1 C.2.1 dL_762 rfl ?_
  refine lv_aload_n C.1 C.2.1 dL_763 rfl (lv_at hl 2 rfl) ?_
  refine lf_one C (ws := ws1) (j := 84) (ia := 111) (n := 0) (As := []) (rest := []) lk_keep.2 (ok_M_keep_84 (by rw [hs1]; exact e2)) ⟨pe_r tf84, trivial⟩ rfl hl.1 hcs hsl (Nat.le_of_ble_eq_true rfl) dL_764 hw hP hD hS (fun y ws2 H locs hs2 hy hw hP hD hS => ?_)
  refine lv_pop C.1 C.2.1 dL_767 rfl ?_
  refine lv_goto (tgt := 830) C.1 C.2.1 dL_768 (by decide) ?_
  exact k ws2 H locs hw (by rw [hs2]; exact hJ2) hP hD hS
theorem le_23 (C : ev_cx p s m args meth c code 4 13 D tys aK aV b0) (hX : va_X b L xs s s.heap) (hbl : b < s.heap.size) (hbA : ¬ b0 ≤ b) (hL6 : i + 6 ≤ L) (hL : L < 2 ^ 31) (hi : i ≤ 3078) (hl : lv_has ls 4 [(0, .ref b), (1, .ref (ad 0)), (2, .ref (ad 84)), (3, .int (nI i))]) (hcs : cs ≤ 600000) (hsl : sl ≤ 7302250) (hw : ev_w tys tF ad ws) (hJ : WR i (sg ws) (sg ws)) (hP : va_P D vwCl ws H) (hD : va_D (fun q => b0 ≤ q) ws) (hS : va_S (fun q => b0 ≤ q) s.heap H locs) (k : le_go p l e s m args below meth c Q D tys b0 ad ls cs sl 830 (i + 1)) : W p l e room_1 s m args below meth c H locs cs sl Q (F0 m 771 ls []) := by
  obtain ⟨v, σ1, w, τ1, e1, e2, hJ2, hc⟩ := lt_undo (by omega : i ≤ 100000) (sg ws) hJ
  refine lv_aload_n C.1 C.2.1 dL_771 rfl (lv_at hl 1 rfl) ?_
  refine lf_one C (j := 0) (ia := 112) (n := 0) (As := []) (rest := []) lk_undo.1 (ok_X_undo_0 e1) ⟨pe_r tf0, trivial⟩ rfl hl.1 hcs hsl (by decide) dL_772 hw hP hD hS (fun x ws1 H locs hs1 hx hw hP hD hS => ?_)
  refine lv_pop C.1 C.2.1 dL_775 rfl ?_
  refine lv_aload_n C.1 C.2.1 dL_776 rfl (lv_at hl 2 rfl) ?_
  refine lf_one C (ws := ws1) (j := 84) (ia := 116) (n := 0) (As := []) (rest := []) lk_undo.2 (ok_M_undo_84 (by rw [hs1]; exact e2)) ⟨pe_r tf84, trivial⟩ rfl hl.1 hcs hsl (Nat.le_of_ble_eq_true rfl) dL_777 hw hP hD hS (fun y ws2 H locs hs2 hy hw hP hD hS => ?_)
  refine lv_pop C.1 C.2.1 dL_780 rfl ?_
  refine lv_goto (tgt := 830) C.1 C.2.1 dL_781 (by decide) ?_
  exact k ws2 H locs hw (by rw [hs2]; exact hJ2) hP hD hS
theorem le_24 (C : ev_cx p s m args meth c code 4 13 D tys aK aV b0) (hX : va_X b L xs s s.heap) (hbl : b < s.heap.size) (hbA : ¬ b0 ≤ b) (hL6 : i + 6 ≤ L) (hL : L < 2 ^ 31) (hi : i ≤ 3078) (hl : lv_has ls 4 [(0, .ref b), (1, .ref (ad 0)), (2, .ref (ad 84)), (3, .int (nI i))]) (hcs : cs ≤ 600000) (hsl : sl ≤ 7302250) (hw : ev_w tys tF ad ws) (hJ : WR i (sg ws) (sg ws)) (hP : va_P D vwCl ws H) (hD : va_D (fun q => b0 ≤ q) ws) (hS : va_S (fun q => b0 ≤ q) s.heap H locs) (k : le_go p l e s m args below meth c Q D tys b0 ad ls cs sl 830 (i + 1)) : W p l e room_1 s m args below meth c H locs cs sl Q (F0 m 784 ls []) := by
  obtain ⟨v, σ1, w, τ1, e1, e2, hJ2, hc⟩ := lt_check (by omega : i ≤ 100000) (xs (i + 1)) (sg ws) hJ
  refine lv_aload_n C.1 C.2.1 dL_784 rfl (lv_at hl 1 rfl) ?_
  refine le_arg C.1 C.2.1 hX hbl hbA (lv_at hl 0 rfl) (lv_at hl 3 rfl) (k := 1) rfl (by omega) hL hS dL_785 dL_786 dL_787 dL_788 dL_789 ?_
  refine lf_one C (j := 0) (ia := 117) (n := 1) (As := [.int (xs (i + 1))]) (rest := []) lk_check.1 (ok_X_check_0 e1) ⟨pe_r tf0, pe_i rfl, trivial⟩ rfl hl.1 hcs hsl (by decide) dL_790 hw hP hD hS (fun x ws1 H locs hs1 hx hw hP hD hS => ?_)
  refine lv_pop C.1 C.2.1 dL_793 rfl ?_
  refine lv_aload_n C.1 C.2.1 dL_794 rfl (lv_at hl 2 rfl) ?_
  refine le_arg C.1 C.2.1 hX hbl hbA (lv_at hl 0 rfl) (lv_at hl 3 rfl) (k := 1) rfl (by omega) hL hS dL_795 dL_796 dL_797 dL_798 dL_799 ?_
  refine lf_one C (ws := ws1) (j := 84) (ia := 120) (n := 1) (As := [.int (xs (i + 1))]) (rest := []) lk_check.2 (ok_M_check_84 (by rw [hs1]; exact e2)) ⟨pe_r tf84, pe_i rfl, trivial⟩ rfl hl.1 hcs hsl (Nat.le_of_ble_eq_true rfl) dL_800 hw hP hD hS (fun y ws2 H locs hs2 hy hw hP hD hS => ?_)
  refine lv_pop C.1 C.2.1 dL_803 rfl ?_
  refine lv_goto (tgt := 830) C.1 C.2.1 dL_804 (by decide) ?_
  exact k ws2 H locs hw (by rw [hs2]; exact hJ2) hP hD hS
theorem le_25 (C : ev_cx p s m args meth c code 4 13 D tys aK aV b0) (hX : va_X b L xs s s.heap) (hbl : b < s.heap.size) (hbA : ¬ b0 ≤ b) (hL6 : i + 6 ≤ L) (hL : L < 2 ^ 31) (hi : i ≤ 3078) (hl : lv_has ls 4 [(0, .ref b), (1, .ref (ad 0)), (2, .ref (ad 84)), (3, .int (nI i))]) (hcs : cs ≤ 600000) (hsl : sl ≤ 7302250) (hw : ev_w tys tF ad ws) (hJ : WR i (sg ws) (sg ws)) (hP : va_P D vwCl ws H) (hD : va_D (fun q => b0 ≤ q) ws) (hS : va_S (fun q => b0 ≤ q) s.heap H locs) (k : le_go p l e s m args below meth c Q D tys b0 ad ls cs sl 830 (i + 1)) : W p l e room_1 s m args below meth c H locs cs sl Q (F0 m 807 ls []) := by
  obtain ⟨v, σ1, w, τ1, e1, e2, hJ2, hc⟩ := lt_count (by omega : i ≤ 100000) (xs (i + 1)) (sg ws) hJ
  refine lv_aload_n C.1 C.2.1 dL_807 rfl (lv_at hl 1 rfl) ?_
  refine le_arg C.1 C.2.1 hX hbl hbA (lv_at hl 0 rfl) (lv_at hl 3 rfl) (k := 1) rfl (by omega) hL hS dL_808 dL_809 dL_810 dL_811 dL_812 ?_
  refine lf_one C (j := 0) (ia := 121) (n := 1) (As := [.int (xs (i + 1))]) (rest := []) lk_count.1 (ok_X_count_0 e1) ⟨pe_r tf0, pe_i rfl, trivial⟩ rfl hl.1 hcs hsl (by decide) dL_813 hw hP hD hS (fun x ws1 H locs hs1 hx hw hP hD hS => ?_)
  refine lv_aload_n C.1 C.2.1 dL_816 rfl (lv_at hl 2 rfl) ?_
  refine le_arg C.1 C.2.1 hX hbl hbA (lv_at hl 0 rfl) (lv_at hl 3 rfl) (k := 1) rfl (by omega) hL hS dL_817 dL_818 dL_819 dL_820 dL_821 ?_
  refine lf_one C (ws := ws1) (j := 84) (ia := 124) (n := 1) (As := [.int (xs (i + 1))]) (rest := [.int x]) lk_count.2 (ok_M_count_84 (by rw [hs1]; exact e2)) ⟨pe_r tf84, pe_i rfl, trivial⟩ rfl hl.1 hcs hsl (Nat.le_of_ble_eq_true rfl) dL_822 hw hP hD hS (fun y ws2 H locs hs2 hy hw hP hD hS => ?_)
  exact lv_icmp_eq (tgt := 830) C.1 C.2.1 dL_825 (by decide) (fun _ => k ws2 H locs hw (by rw [hs2]; exact hJ2) hP hD hS) (fun hne => absurd (by rw [fa_eq, hx, hy]; exact hc rfl) hne)
end LE2
