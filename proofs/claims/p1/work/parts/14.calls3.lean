/-- LoadsAhead seed -/
theorem ok_230 (l : Launch) : en_ok l kk_230 := en_good_ok (K := []) (fun _ h => absurd h List.not_mem_nil) (fuel := 9) (by decide +kernel)
/-- LoadsAheadModel in -/
theorem ok_231 (l : Launch) : en_ok l kk_231 := en_good_ok (K := []) (fun _ h => absurd h List.not_mem_nil) (fuel := 10) (by decide +kernel)
/-- LoadsAheadModel seed -/
theorem ok_232 (l : Launch) : en_ok l kk_232 := en_good_ok (K := [kk_231]) (List.forall_mem_cons.mpr ⟨ok_231 l, fun _ h => absurd h List.not_mem_nil⟩) (fuel := 9) (by decide +kernel)
/-- LoadsAhead.State copyCellsFrom -/
theorem ok_233 (l : Launch) : en_ok l kk_233 := en_good_ok (K := []) (fun _ h => absurd h List.not_mem_nil) (fuel := 27) (by decide +kernel)
/-- LoadsAhead.State copySetsFrom -/
theorem ok_234 (l : Launch) : en_ok l kk_234 := en_good_ok (K := []) (fun _ h => absurd h List.not_mem_nil) (fuel := 15) (by decide +kernel)
/-- LoadsAhead.State copyFrom -/
theorem ok_235 (l : Launch) : en_ok l kk_235 := en_good_ok (K := [kk_233, kk_234]) (List.forall_mem_cons.mpr ⟨ok_233 l, List.forall_mem_cons.mpr ⟨ok_234 l, fun _ h => absurd h List.not_mem_nil⟩⟩) (fuel := 9) (by decide +kernel)
/-- LoadsAhead keep -/
theorem ok_236 (l : Launch) : en_ok l kk_236 := en_good_ok (K := [kk_235]) (List.forall_mem_cons.mpr ⟨ok_235 l, fun _ h => absurd h List.not_mem_nil⟩) (fuel := 19) (by decide +kernel)
/-- LoadsAheadModel keep -/
theorem ok_237 (l : Launch) : en_ok l kk_237 := en_good_ok (K := []) (fun _ h => absurd h List.not_mem_nil) (fuel := 1235) (by decide +kernel)
/-- LoadsAhead undo -/
theorem ok_238 (l : Launch) : en_ok l kk_238 := en_good_ok (K := []) (fun _ h => absurd h List.not_mem_nil) (fuel := 7) (by decide +kernel)
/-- LoadsAheadModel undo -/
theorem ok_239 (l : Launch) : en_ok l kk_239 := en_good_ok (K := []) (fun _ h => absurd h List.not_mem_nil) (fuel := 7) (by decide +kernel)
/-- LoadsAhead check -/
theorem ok_240 (l : Launch) : en_ok l kk_240 := en_good_ok (K := []) (fun _ h => absurd h List.not_mem_nil) (fuel := 6) (by decide +kernel)
/-- LoadsAheadModel in -/
theorem ok_241 (l : Launch) : en_ok l kk_241 := en_good_ok (K := []) (fun _ h => absurd h List.not_mem_nil) (fuel := 7) (by decide +kernel)
/-- LoadsAheadModel check -/
theorem ok_242 (l : Launch) : en_ok l kk_242 := en_good_ok (K := [kk_241]) (List.forall_mem_cons.mpr ⟨ok_241 l, fun _ h => absurd h List.not_mem_nil⟩) (fuel := 9) (by decide +kernel)
/-- LoadsAhead.Tape clear -/
theorem ok_243 (l : Launch) : en_ok l kk_243 := en_good_ok (K := []) (fun _ h => absurd h List.not_mem_nil) (fuel := 6) (by decide +kernel)
/-- LoadsAhead check -/
theorem ok_244 (l : Launch) : en_ok l kk_244 := en_good_ok (K := [kk_243]) (List.forall_mem_cons.mpr ⟨ok_243 l, fun _ h => absurd h List.not_mem_nil⟩) (fuel := 24) (by decide +kernel)
/-- LoadsAheadModel in -/
theorem ok_245 (l : Launch) : en_ok l kk_245 := en_good_ok (K := []) (fun _ h => absurd h List.not_mem_nil) (fuel := 11) (by decide +kernel)
/-- LoadsAheadModel check -/
theorem ok_246 (l : Launch) : en_ok l kk_246 := en_good_ok (K := [kk_245]) (List.forall_mem_cons.mpr ⟨ok_245 l, fun _ h => absurd h List.not_mem_nil⟩) (fuel := 21) (by decide +kernel)
/-- LoadsAhead check -/
theorem ok_247 (l : Launch) : en_ok l kk_247 := en_good_ok (K := []) (fun _ h => absurd h List.not_mem_nil) (fuel := 14) (by decide +kernel)
/-- LoadsAheadModel in -/
theorem ok_248 (l : Launch) : en_ok l kk_248 := en_good_ok (K := []) (fun _ h => absurd h List.not_mem_nil) (fuel := 11) (by decide +kernel)
/-- LoadsAheadModel check -/
theorem ok_249 (l : Launch) : en_ok l kk_249 := en_good_ok (K := [kk_248]) (List.forall_mem_cons.mpr ⟨ok_248 l, fun _ h => absurd h List.not_mem_nil⟩) (fuel := 13) (by decide +kernel)
/-- LoadsAhead check -/
theorem ok_250 (l : Launch) : en_ok l kk_250 := en_good_ok (K := []) (fun _ h => absurd h List.not_mem_nil) (fuel := 9) (by decide +kernel)
/-- LoadsAheadModel in -/
theorem ok_251 (l : Launch) : en_ok l kk_251 := en_good_ok (K := []) (fun _ h => absurd h List.not_mem_nil) (fuel := 10) (by decide +kernel)
/-- LoadsAheadModel check -/
theorem ok_252 (l : Launch) : en_ok l kk_252 := en_good_ok (K := [kk_251]) (List.forall_mem_cons.mpr ⟨ok_251 l, fun _ h => absurd h List.not_mem_nil⟩) (fuel := 9) (by decide +kernel)
/-- LoadsAhead count -/
theorem ok_253 (l : Launch) : en_ok l kk_253 := en_good_ok (K := []) (fun _ h => absurd h List.not_mem_nil) (fuel := 6) (by decide +kernel)
/-- LoadsAheadModel count -/
theorem ok_254 (l : Launch) : en_ok l kk_254 := en_good_ok (K := []) (fun _ h => absurd h List.not_mem_nil) (fuel := 6) (by decide +kernel)
/-- LoadsAhead count -/
theorem ok_255 (l : Launch) : en_ok l kk_255 := en_good_ok (K := []) (fun _ h => absurd h List.not_mem_nil) (fuel := 9) (by decide +kernel)
/-- LoadsAheadModel count -/
theorem ok_256 (l : Launch) : en_ok l kk_256 := en_good_ok (K := []) (fun _ h => absurd h List.not_mem_nil) (fuel := 7) (by decide +kernel)
/-- LoadsAhead count -/
theorem ok_257 (l : Launch) : en_ok l kk_257 := en_good_ok (K := []) (fun _ h => absurd h List.not_mem_nil) (fuel := 9) (by decide +kernel)
/-- LoadsAheadModel count -/
theorem ok_258 (l : Launch) : en_ok l kk_258 := en_good_ok (K := []) (fun _ h => absurd h List.not_mem_nil) (fuel := 7) (by decide +kernel)
/-- LoadsAhead.Program ofKind -/
theorem ok_259 (l : Launch) : en_ok l kk_259 := en_good_ok (K := []) (fun _ h => absurd h List.not_mem_nil) (fuel := 12) (by decide +kernel)
/-- LoadsAhead count -/
theorem ok_260 (l : Launch) : en_ok l kk_260 := en_good_ok (K := [kk_259]) (List.forall_mem_cons.mpr ⟨ok_259 l, fun _ h => absurd h List.not_mem_nil⟩) (fuel := 10) (by decide +kernel)
/-- LoadsAheadModel ofKind -/
theorem ok_261 (l : Launch) : en_ok l kk_261 := en_good_ok (K := []) (fun _ h => absurd h List.not_mem_nil) (fuel := 12) (by decide +kernel)
/-- LoadsAheadModel count -/
theorem ok_262 (l : Launch) : en_ok l kk_262 := en_good_ok (K := [kk_261]) (List.forall_mem_cons.mpr ⟨ok_261 l, fun _ h => absurd h List.not_mem_nil⟩) (fuel := 8) (by decide +kernel)
/-- LoadsAhead.Program ofKind -/
theorem ok_263 (l : Launch) : en_ok l kk_263 := en_good_ok (K := []) (fun _ h => absurd h List.not_mem_nil) (fuel := 12) (by decide +kernel)
/-- LoadsAhead count -/
theorem ok_264 (l : Launch) : en_ok l kk_264 := en_good_ok (K := [kk_263]) (List.forall_mem_cons.mpr ⟨ok_263 l, fun _ h => absurd h List.not_mem_nil⟩) (fuel := 10) (by decide +kernel)
/-- LoadsAheadModel ofKind -/
theorem ok_265 (l : Launch) : en_ok l kk_265 := en_good_ok (K := []) (fun _ h => absurd h List.not_mem_nil) (fuel := 12) (by decide +kernel)
/-- LoadsAheadModel count -/
theorem ok_266 (l : Launch) : en_ok l kk_266 := en_good_ok (K := [kk_265]) (List.forall_mem_cons.mpr ⟨ok_265 l, fun _ h => absurd h List.not_mem_nil⟩) (fuel := 8) (by decide +kernel)
/-- LoadsAhead count -/
theorem ok_267 (l : Launch) : en_ok l kk_267 := en_good_ok (K := []) (fun _ h => absurd h List.not_mem_nil) (fuel := 9) (by decide +kernel)
/-- LoadsAheadModel count -/
theorem ok_268 (l : Launch) : en_ok l kk_268 := en_good_ok (K := []) (fun _ h => absurd h List.not_mem_nil) (fuel := 7) (by decide +kernel)
/-- LoadsAhead count -/
theorem ok_269 (l : Launch) : en_ok l kk_269 := en_good_ok (K := []) (fun _ h => absurd h List.not_mem_nil) (fuel := 8) (by decide +kernel)
/-- LoadsAheadModel count -/
theorem ok_270 (l : Launch) : en_ok l kk_270 := en_good_ok (K := []) (fun _ h => absurd h List.not_mem_nil) (fuel := 7) (by decide +kernel)
/-- LoadsAhead count -/
theorem ok_271 (l : Launch) : en_ok l kk_271 := en_good_ok (K := []) (fun _ h => absurd h List.not_mem_nil) (fuel := 9) (by decide +kernel)
/-- LoadsAheadModel count -/
theorem ok_272 (l : Launch) : en_ok l kk_272 := en_good_ok (K := []) (fun _ h => absurd h List.not_mem_nil) (fuel := 7) (by decide +kernel)
/-- LoadsAhead count -/
theorem ok_273 (l : Launch) : en_ok l kk_273 := en_good_ok (K := []) (fun _ h => absurd h List.not_mem_nil) (fuel := 8) (by decide +kernel)
/-- LoadsAheadModel count -/
theorem ok_274 (l : Launch) : en_ok l kk_274 := en_good_ok (K := []) (fun _ h => absurd h List.not_mem_nil) (fuel := 7) (by decide +kernel)
/-- LoadsAhead count -/
theorem ok_275 (l : Launch) : en_ok l kk_275 := en_good_ok (K := [kk_218]) (List.forall_mem_cons.mpr ⟨ok_218 l, fun _ h => absurd h List.not_mem_nil⟩) (fuel := 9) (by decide +kernel)
/-- LoadsAheadModel count -/
theorem ok_276 (l : Launch) : en_ok l kk_276 := en_good_ok (K := [kk_222]) (List.forall_mem_cons.mpr ⟨ok_222 l, fun _ h => absurd h List.not_mem_nil⟩) (fuel := 7) (by decide +kernel)
/-- LoadsAhead count -/
theorem ok_277 (l : Launch) : en_ok l kk_277 := en_good_ok (K := []) (fun _ h => absurd h List.not_mem_nil) (fuel := 9) (by decide +kernel)
/-- LoadsAheadModel count -/
theorem ok_278 (l : Launch) : en_ok l kk_278 := en_good_ok (K := []) (fun _ h => absurd h List.not_mem_nil) (fuel := 7) (by decide +kernel)
/-- LoadsAhead count -/
theorem ok_279 (l : Launch) : en_ok l kk_279 := en_good_ok (K := []) (fun _ h => absurd h List.not_mem_nil) (fuel := 16) (by decide +kernel)
/-- LoadsAheadModel count -/
theorem ok_280 (l : Launch) : en_ok l kk_280 := en_good_ok (K := []) (fun _ h => absurd h List.not_mem_nil) (fuel := 14) (by decide +kernel)
/-- LoadsAhead.State bytesNotZero -/
theorem ok_281 (l : Launch) : en_ok l kk_281 := en_good_ok (K := []) (fun _ h => absurd h List.not_mem_nil) (fuel := 651) (by decide +kernel)
/-- LoadsAhead count -/
theorem ok_282 (l : Launch) : en_ok l kk_282 := en_good_ok (K := [kk_281]) (List.forall_mem_cons.mpr ⟨ok_281 l, fun _ h => absurd h List.not_mem_nil⟩) (fuel := 9) (by decide +kernel)
/-- LoadsAheadModel bytesThere -/
theorem ok_283 (l : Launch) : en_ok l kk_283 := en_good_ok (K := []) (fun _ h => absurd h List.not_mem_nil) (fuel := 651) (by decide +kernel)
/-- LoadsAheadModel count -/
theorem ok_284 (l : Launch) : en_ok l kk_284 := en_good_ok (K := [kk_283]) (List.forall_mem_cons.mpr ⟨ok_283 l, fun _ h => absurd h List.not_mem_nil⟩) (fuel := 7) (by decide +kernel)
/-- LoadsAhead count -/
theorem ok_285 (l : Launch) : en_ok l kk_285 := en_good_ok (K := []) (fun _ h => absurd h List.not_mem_nil) (fuel := 6) (by decide +kernel)
/-- LoadsAheadModel count -/
theorem ok_286 (l : Launch) : en_ok l kk_286 := en_good_ok (K := []) (fun _ h => absurd h List.not_mem_nil) (fuel := 6) (by decide +kernel)
