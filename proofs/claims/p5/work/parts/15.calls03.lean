def kq_248 : ek := (6, [.inr 35, .inl (0, 0)], [], [(33, 999)], [(none, [])], 0, 0)
/-- java/util/Arrays fill -/
theorem qk_248 (l : Launch) : ek_ok l tQ iQ kq_248 := ek_good_ok (sp := sQ) (K := []) (SP := []) (HS := [((5, [some (.inr 35, none), some (.inl (0, 0), none), some (.inl (0, 6), none), some (.inl (6, 6), none)], [], [], []), [(0, (0, 0, 0), 0), (1, (1, 2, 0), 6), (0, (0, 0, 0), 0)])]) (N := 3) (fuel := 28) hIQ (fun _ h => absurd h List.not_mem_nil) (by decide +kernel)
def kq_249 : ek := (6, [.inr 36, .inl (0, 0)], [], [(34, 999)], [(none, [])], 0, 0)
/-- java/util/Arrays fill -/
theorem qk_249 (l : Launch) : ek_ok l tQ iQ kq_249 := ek_good_ok (sp := sQ) (K := []) (SP := []) (HS := [((5, [some (.inr 36, none), some (.inl (0, 0), none), some (.inl (0, 20), none), some (.inl (20, 20), none)], [], [], []), [(0, (0, 0, 0), 0), (1, (1, 2, 0), 20), (0, (0, 0, 0), 0)])]) (N := 3) (fuel := 28) hIQ (fun _ h => absurd h List.not_mem_nil) (by decide +kernel)
def kq_250 : ek := (6, [.inr 37, .inl (0, 0)], [], [(35, 999)], [(none, [])], 0, 0)
/-- java/util/Arrays fill -/
theorem qk_250 (l : Launch) : ek_ok l tQ iQ kq_250 := ek_good_ok (sp := sQ) (K := []) (SP := []) (HS := [((5, [some (.inr 37, none), some (.inl (0, 0), none), some (.inl (0, 20), none), some (.inl (20, 20), none)], [], [], []), [(0, (0, 0, 0), 0), (1, (1, 2, 0), 20), (0, (0, 0, 0), 0)])]) (N := 3) (fuel := 28) hIQ (fun _ h => absurd h List.not_mem_nil) (by decide +kernel)
def kq_251 : ek := (6, [.inr 38, .inl (0, 0)], [], [(36, 999)], [(none, [])], 0, 0)
/-- java/util/Arrays fill -/
theorem qk_251 (l : Launch) : ek_ok l tQ iQ kq_251 := ek_good_ok (sp := sQ) (K := []) (SP := []) (HS := [((5, [some (.inr 38, none), some (.inl (0, 0), none), some (.inl (0, 20), none), some (.inl (20, 20), none)], [], [], []), [(0, (0, 0, 0), 0), (1, (1, 2, 0), 20), (0, (0, 0, 0), 0)])]) (N := 3) (fuel := 28) hIQ (fun _ h => absurd h List.not_mem_nil) (by decide +kernel)
def kq_252 : ek := (6, [.inr 39, .inl (0, 0)], [], [(37, 999)], [(none, [])], 0, 0)
/-- java/util/Arrays fill -/
theorem qk_252 (l : Launch) : ek_ok l tQ iQ kq_252 := ek_good_ok (sp := sQ) (K := []) (SP := []) (HS := [((5, [some (.inr 39, none), some (.inl (0, 0), none), some (.inl (0, 20), none), some (.inl (20, 20), none)], [], [], []), [(0, (0, 0, 0), 0), (1, (1, 2, 0), 20), (0, (0, 0, 0), 0)])]) (N := 3) (fuel := 28) hIQ (fun _ h => absurd h List.not_mem_nil) (by decide +kernel)
def kq_253 : ek := (6, [.inr 40, .inl ((-1), (-1))], [], [(38, 999)], [(none, [])], 0, 0)
/-- java/util/Arrays fill -/
theorem qk_253 (l : Launch) : ek_ok l tQ iQ kq_253 := ek_good_ok (sp := sQ) (K := []) (SP := []) (HS := [((5, [some (.inr 40, none), some (.inl ((-1), (-1)), none), some (.inl (0, 80), none), some (.inl (80, 80), none)], [], [], []), [(0, (0, 0, 0), 0), (1, (1, 2, 0), 80), (0, (0, 0, 0), 0)])]) (N := 3) (fuel := 28) hIQ (fun _ h => absurd h List.not_mem_nil) (by decide +kernel)
def kq_254 : ek := (64, [.inr 34], [], [(33, 999), (34, 999), (35, 999), (36, 999), (37, 999), (38, 999)], [(none, [])], 1, 23)
/-- LoadsAhead.Report clear -/
theorem qk_254 (l : Launch) : ek_ok l tQ iQ kq_254 := ek_good_ok (sp := sQ) (K := [kq_250, kq_253, kq_249, kq_252, kq_251, kq_248]) (SP := []) (HS := []) (N := 0) (fuel := 58) hIQ (List.forall_mem_cons.mpr ⟨qk_250 l, List.forall_mem_cons.mpr ⟨qk_253 l, List.forall_mem_cons.mpr ⟨qk_249 l, List.forall_mem_cons.mpr ⟨qk_252 l, List.forall_mem_cons.mpr ⟨qk_251 l, List.forall_mem_cons.mpr ⟨qk_248 l, fun _ h => absurd h List.not_mem_nil⟩⟩⟩⟩⟩⟩) (by decide +kernel)
def kq_255 : ek := (60, [.inr 5], [], [(28, 3), (28, 4), (28, 5), (29, 999), (30, 999), (31, 999), (33, 999), (34, 999), (35, 999), (36, 999), (37, 999), (38, 999), (39, 999), (41, 999)], [(none, [])], 3, 107)
/-- LoadsAhead.Machine begin -/
theorem qk_255 (l : Launch) : ek_ok l tQ iQ kq_255 := ek_good_ok (sp := sQ) (K := [kq_254, kq_244, kq_247]) (SP := []) (HS := [((28, [some (.inr 5, none), some (.inl (0, 20), none)], [], [], []), [(0, (0, 0, 0), 0), (1, (1, 1, 0), 20), (0, (0, 0, 0), 0)])]) (N := 3) (fuel := 38) hIQ (List.forall_mem_cons.mpr ⟨qk_254 l, List.forall_mem_cons.mpr ⟨qk_244 l, List.forall_mem_cons.mpr ⟨qk_247 l, fun _ h => absurd h List.not_mem_nil⟩⟩⟩) (by decide +kernel)
def kq_256 : ek := (66, [.inr 5, .inl ((-1), 19), .inl ((-1), 7)], [], [], [(some (.inl ((-2147483648), 2147483647)), []), (some (.inl (0, 0)), [])], 1, 20)
/-- LoadsAhead.Machine valueRead -/
theorem qk_256 (l : Launch) : ek_ok l tQ iQ kq_256 := ek_good_ok (sp := sQ) (K := [kq_131, kq_132]) (SP := [(21, [(0, [(-1), 7])])]) (HS := []) (N := 0) (fuel := 32) hIQ (List.forall_mem_cons.mpr ⟨qk_131 l, List.forall_mem_cons.mpr ⟨qk_132 l, fun _ h => absurd h List.not_mem_nil⟩⟩) (by decide +kernel)
def kq_257 : ek := (67, [.inr 6, .inl (0, 19), .inl ((-2147483648), 2147483647)], [], [], [(some (.inl (0, 63)), [])], 0, 0)
/-- LoadsAhead.Program placeBy -/
theorem qk_257 (l : Launch) : ek_ok l tQ iQ kq_257 := ek_good_ok (sp := sQ) (K := []) (SP := []) (HS := []) (N := 0) (fuel := 26) hIQ (fun _ h => absurd h List.not_mem_nil) (by decide +kernel)
def kq_258 : ek := (67, [.inr 6, .inl (0, 19), .inl (0, 0)], [], [], [(some (.inl (0, 63)), [])], 0, 0)
/-- LoadsAhead.Program placeBy -/
theorem qk_258 (l : Launch) : ek_ok l tQ iQ kq_258 := ek_good_ok (sp := sQ) (K := []) (SP := []) (HS := []) (N := 0) (fuel := 26) hIQ (fun _ h => absurd h List.not_mem_nil) (by decide +kernel)
def kq_259 : ek := (70, [.inl ((-2147483648), 2147483647), .inl (0, 4), .inl (0, 63)], [], [], [(some (.inl (1, 1)), []), (some (.inl (0, 0)), [])], 0, 0)
/-- LoadsAhead covers -/
theorem qk_259 (l : Launch) : ek_ok l tQ iQ kq_259 := ek_good_ok (sp := sQ) (K := []) (SP := []) (HS := []) (N := 0) (fuel := 28) hIQ (fun _ h => absurd h List.not_mem_nil) (by decide +kernel)
def kq_260 : ek := (69, [.inr 5, .inl (0, 19), .inl (0, 63)], [], [], [(some (.inl (0, 18)), []), (some (.inl ((-1), (-1))), [])], 1, 22)
/-- LoadsAhead.Machine youngestCovering -/
theorem qk_260 (l : Launch) : ek_ok l tQ iQ kq_260 := ek_good_ok (sp := sQ) (K := [kq_259]) (SP := []) (HS := [((4, [some (.inr 5, none), some (.inl (0, 19), none), some (.inl (0, 63), none), some (.inl ((-1), 18), none)], [], [], []), [(0, (0, 0, 0), 0), (2, (1, 3, 0), (-1)), (0, (0, 0, 0), 0)])]) (N := 3) (fuel := 70) hIQ (List.forall_mem_cons.mpr ⟨qk_259 l, fun _ h => absurd h List.not_mem_nil⟩) (by decide +kernel)
def kq_261 : ek := (71, [.inr 5, .inl (0, 19), .inl (0, 63)], [], [], [(some (.inl (0, 255)), [])], 0, 0)
/-- LoadsAhead.Machine storedAt -/
theorem qk_261 (l : Launch) : ek_ok l tQ iQ kq_261 := ek_good_ok (sp := sQ) (K := []) (SP := []) (HS := []) (N := 0) (fuel := 52) hIQ (fun _ h => absurd h List.not_mem_nil) (by decide +kernel)
def kq_262 : ek := (68, [.inr 5, .inl (0, 19)], [], [(36, 999), (38, 999)], [(none, [])], 2, 45)
/-- LoadsAhead.Machine takeBytes -/
theorem qk_262 (l : Launch) : ek_ok l tQ iQ kq_262 := ek_good_ok (sp := sQ) (K := [kq_260, kq_261]) (SP := []) (HS := [((4, [some (.inr 5, none), some (.inl (0, 19), none), some (.inl ((-2147483648), 2147483647), none), some (.inl (0, 4), none), none, none, none], [], [], []), [(0, (0, 0, 0), 0), (1, (1, 3, 0), 4), (0, (0, 0, 0), 0)])]) (N := 3) (fuel := 114) hIQ (List.forall_mem_cons.mpr ⟨qk_260 l, List.forall_mem_cons.mpr ⟨qk_261 l, fun _ h => absurd h List.not_mem_nil⟩⟩) (by decide +kernel)
def kq_263 : ek := (72, [.inr 6, .inl (0, 19), .inl ((-2147483648), 2147483647)], [], [], [(some (.inl ((-2147483648), 2147483647)), [])], 0, 0)
/-- LoadsAhead.Program storedOf -/
theorem qk_263 (l : Launch) : ek_ok l tQ iQ kq_263 := ek_good_ok (sp := sQ) (K := []) (SP := []) (HS := []) (N := 0) (fuel := 46) hIQ (fun _ h => absurd h List.not_mem_nil) (by decide +kernel)
def kq_264 : ek := (72, [.inr 6, .inl (0, 19), .inl (0, 0)], [], [], [(some (.inl (0, 0)), [])], 0, 0)
/-- LoadsAhead.Program storedOf -/
theorem qk_264 (l : Launch) : ek_ok l tQ iQ kq_264 := ek_good_ok (sp := sQ) (K := []) (SP := []) (HS := []) (N := 0) (fuel := 46) hIQ (fun _ h => absurd h List.not_mem_nil) (by decide +kernel)
def kq_265 : ek := (74, [.inr 5, .inl (0, 19), .inl (0, 19)], [], [], [(some (.inl (1, 1)), []), (some (.inl (0, 0)), [])], 1, 22)
/-- LoadsAhead.Machine tookTooOld -/
theorem qk_265 (l : Launch) : ek_ok l tQ iQ kq_265 := ek_good_ok (sp := sQ) (K := [kq_259]) (SP := []) (HS := [((2, [some (.inr 5, none), some (.inl (0, 19), none), some (.inl (0, 19), none), some (.inl (0, 4), none), none], [], [], []), [(0, (0, 0, 0), 0), (1, (1, 3, 0), 4), (0, (0, 0, 0), 0)])]) (N := 3) (fuel := 96) hIQ (List.forall_mem_cons.mpr ⟨qk_259 l, fun _ h => absurd h List.not_mem_nil⟩) (by decide +kernel)
def kq_266 : ek := (75, [.inr 30, .inl (0, 19), .inl (0, 19)], [], [(28, 3), (31, 999)], [(none, [])], 1, 15)
/-- LoadsAhead.State melt -/
theorem qk_266 (l : Launch) : ek_ok l tQ iQ kq_266 := ek_good_ok (sp := sQ) (K := []) (SP := []) (HS := []) (N := 0) (fuel := 100) hIQ (fun _ h => absurd h List.not_mem_nil) (by decide +kernel)
def kq_267 : ek := (78, [.inr 5, .inl (0, 19)], [], [(30, 999), (33, 999), (41, 999)], [(none, [])], 0, 0)
/-- LoadsAhead.Machine undoDownTo -/
theorem qk_267 (l : Launch) : ek_ok l tQ iQ kq_267 := ek_good_ok (sp := sQ) (K := []) (SP := []) (HS := [((10, [some (.inr 5, none), some (.inl (0, 19), none), some (.inl ((-1), 19), none), none], [], [], []), [(0, (0, 0, 0), 0), (2, (1, 2, 0), (-1)), (0, (0, 0, 0), 1), (0, (0, 0, 0), 0), (0, (0, 0, 0), 0)]), ((26, [some (.inr 5, none), some (.inl (0, 19), none), some (.inl (0, 19), none), some (.inl (0, 4), none)], [], [], []), [(0, (0, 0, 0), 0), (2, (1, 2, 0), (-1)), (0, (0, 0, 0), 0), (1, (1, 3, 0), 4), (0, (0, 0, 0), 0)])]) (N := 5) (fuel := 70) hIQ (fun _ h => absurd h List.not_mem_nil) (by decide +kernel)
def kq_268 : ek := (77, [.inr 5, .inl (0, 19)], [], [(30, 999), (33, 999), (35, 999), (39, 999), (41, 999)], [(none, [])], 1, 23)
/-- LoadsAhead.Machine makeWait -/
theorem qk_268 (l : Launch) : ek_ok l tQ iQ kq_268 := ek_good_ok (sp := sQ) (K := [kq_267]) (SP := []) (HS := []) (N := 0) (fuel := 72) hIQ (List.forall_mem_cons.mpr ⟨qk_267 l, fun _ h => absurd h List.not_mem_nil⟩) (by decide +kernel)
def kq_269 : ek := (79, [.inr 5, .inl (0, 19), .inl (0, 19)], [], [], [(some (.inl (1, 1)), []), (some (.inl (0, 0)), [])], 0, 0)
/-- LoadsAhead.Machine dependsOn -/
theorem qk_269 (l : Launch) : ek_ok l tQ iQ kq_269 := ek_good_ok (sp := sQ) (K := []) (SP := []) (HS := [((55, [some (.inr 5, none), some (.inl (0, 19), none), some (.inl (0, 19), none), some (.inl (0, 4), none)], [], [], []), [(0, (0, 0, 0), 0), (1, (1, 3, 0), 4), (0, (0, 0, 0), 0)])]) (N := 3) (fuel := 68) hIQ (fun _ h => absurd h List.not_mem_nil) (by decide +kernel)
def kq_270 : ek := (76, [.inr 5, .inl (0, 19)], [], [(30, 999), (33, 999), (35, 999), (39, 999), (41, 999), (44, 999)], [(none, [])], 2, 44)
/-- LoadsAhead.Machine replay -/
theorem qk_270 (l : Launch) : ek_ok l tQ iQ kq_270 := ek_good_ok (sp := sQ) (K := [kq_268, kq_269]) (SP := []) (HS := [((16, [some (.inr 5, none), some (.inl (0, 19), none), some (.inl (1, 20), none), some (.inl (0, 20), none), none], [], [], []), [(0, (0, 0, 0), 0), (1, (1, 2, 0), 20), (0, (0, 0, 0), 0), (1, (1, 3, 0), 20), (0, (0, 0, 0), 1), (0, (0, 0, 0), 0), (0, (0, 0, 0), 0)]), ((37, [some (.inr 5, none), some (.inl (0, 19), none), some (.inl (1, 20), none), some (.inl (0, 19), none), some (.inl (1, 20), none)], [], [], []), [(0, (0, 0, 0), 0), (1, (1, 2, 0), 20), (0, (0, 0, 0), 0), (1, (1, 3, 0), 20), (0, (0, 0, 0), 0), (1, (1, 4, 0), 20), (0, (0, 0, 0), 0)])]) (N := 7) (fuel := 74) hIQ (List.forall_mem_cons.mpr ⟨qk_268 l, List.forall_mem_cons.mpr ⟨qk_269 l, fun _ h => absurd h List.not_mem_nil⟩⟩) (by decide +kernel)
def kq_271 : ek := (73, [.inr 5, .inl (0, 19)], [], [(28, 3), (30, 999), (31, 999), (33, 999), (35, 999), (39, 999), (41, 999), (43, 999), (44, 999)], [(none, [])], 3, 68)
/-- LoadsAhead.Machine lookBack -/
theorem qk_271 (l : Launch) : ek_ok l tQ iQ kq_271 := ek_good_ok (sp := sQ) (K := [kq_270, kq_265, kq_266]) (SP := []) (HS := [((6, [some (.inr 5, none), some (.inl (0, 19), none), some (.inl (0, 19), none), some (.inl (1, 20), none)], [], [], [(2, 3, (-1))]), [(0, (0, 0, 0), 1), (1, (1, 3, 0), 20), (0, (0, 0, 0), 0)]), ((76, [some (.inr 5, none), some (.inl (0, 19), none), some (.inl (0, 19), none), some (.inl (0, 19), none)], [], [], []), [(0, (0, 0, 0), 0), (1, (1, 3, 0), 19), (0, (0, 0, 0), 0)])]) (N := 3) (fuel := 82) hIQ (List.forall_mem_cons.mpr ⟨qk_270 l, List.forall_mem_cons.mpr ⟨qk_265 l, List.forall_mem_cons.mpr ⟨qk_266 l, fun _ h => absurd h List.not_mem_nil⟩⟩⟩) (by decide +kernel)
def kq_272 : ek := (80, [.inr 6, .inl (0, 19), .inl ((-2147483648), 2147483647), .inl ((-2147483648), 2147483647)], [], [], [(some (.inl ((-2147483648), 2147483647)), []), (some (.inl (0, 1)), [])], 0, 0)
/-- LoadsAhead.Program reckoned -/
theorem qk_272 (l : Launch) : ek_ok l tQ iQ kq_272 := ek_good_ok (sp := sQ) (K := []) (SP := []) (HS := []) (N := 0) (fuel := 30) hIQ (fun _ h => absurd h List.not_mem_nil) (by decide +kernel)
def kq_273 : ek := (80, [.inr 6, .inl (0, 19), .inl ((-2147483648), 2147483647), .inl (0, 0)], [], [], [(some (.inl ((-2147483648), 2147483647)), []), (some (.inl (0, 1)), [])], 0, 0)
/-- LoadsAhead.Program reckoned -/
theorem qk_273 (l : Launch) : ek_ok l tQ iQ kq_273 := ek_good_ok (sp := sQ) (K := []) (SP := []) (HS := []) (N := 0) (fuel := 30) hIQ (fun _ h => absurd h List.not_mem_nil) (by decide +kernel)
def kq_274 : ek := (80, [.inr 6, .inl (0, 19), .inl (0, 0), .inl ((-2147483648), 2147483647)], [], [], [(some (.inl ((-2147483648), 2147483647)), []), (some (.inl (0, 1)), [])], 0, 0)
/-- LoadsAhead.Program reckoned -/
theorem qk_274 (l : Launch) : ek_ok l tQ iQ kq_274 := ek_good_ok (sp := sQ) (K := []) (SP := []) (HS := []) (N := 0) (fuel := 30) hIQ (fun _ h => absurd h List.not_mem_nil) (by decide +kernel)
def kq_275 : ek := (80, [.inr 6, .inl (0, 19), .inl (0, 0), .inl (0, 0)], [], [], [(some (.inl ((-2147483648), 2147483647)), []), (some (.inl (0, 0)), [])], 0, 0)
/-- LoadsAhead.Program reckoned -/
theorem qk_275 (l : Launch) : ek_ok l tQ iQ kq_275 := ek_good_ok (sp := sQ) (K := []) (SP := []) (HS := []) (N := 0) (fuel := 28) hIQ (fun _ h => absurd h List.not_mem_nil) (by decide +kernel)
def kq_276 : ek := (65, [.inr 5], [], [(28, 3), (30, 999), (31, 999), (33, 999), (34, 999), (35, 999), (36, 999), (37, 999), (38, 999), (39, 999), (41, 999), (43, 999), (44, 999)], [(none, [])], 4, 91)
/-- LoadsAhead.Machine finishOps -/
theorem qk_276 (l : Launch) : ek_ok l tQ iQ kq_276 := ek_good_ok (sp := sQ) (K := [kq_275, kq_264, kq_262, kq_271, kq_258, kq_256, kq_263, kq_273, kq_274, kq_257, kq_272]) (SP := []) (HS := [((2, [some (.inr 5, none), some (.inl (0, 20), none), none, none], [], [], []), [(0, (0, 0, 0), 0), (1, (1, 1, 0), 20), (0, (0, 0, 0), 0)])]) (N := 3) (fuel := 202) hIQ (List.forall_mem_cons.mpr ⟨qk_275 l, List.forall_mem_cons.mpr ⟨qk_264 l, List.forall_mem_cons.mpr ⟨qk_262 l, List.forall_mem_cons.mpr ⟨qk_271 l, List.forall_mem_cons.mpr ⟨qk_258 l, List.forall_mem_cons.mpr ⟨qk_256 l, List.forall_mem_cons.mpr ⟨qk_263 l, List.forall_mem_cons.mpr ⟨qk_273 l, List.forall_mem_cons.mpr ⟨qk_274 l, List.forall_mem_cons.mpr ⟨qk_257 l, List.forall_mem_cons.mpr ⟨qk_272 l, fun _ h => absurd h List.not_mem_nil⟩⟩⟩⟩⟩⟩⟩⟩⟩⟩⟩) (by decide +kernel)
def kq_277 : ek := (82, [.inr 5, .inl ((-1), 19)], [], [], [(some (.inl (1, 1)), []), (some (.inl (0, 0)), [])], 0, 0)
/-- LoadsAhead.Machine isDone -/
theorem qk_277 (l : Launch) : ek_ok l tQ iQ kq_277 := ek_good_ok (sp := sQ) (K := []) (SP := []) (HS := []) (N := 0) (fuel := 36) hIQ (fun _ h => absurd h List.not_mem_nil) (by decide +kernel)
def kq_278 : ek := (83, [.inr 5, .inl (0, 19), .inl (0, 0)], [], [], [(some (.inl (0, 0)), []), (some (.inl (1, 1)), [])], 0, 0)
/-- LoadsAhead.Machine mustWait -/
theorem qk_278 (l : Launch) : ek_ok l tQ iQ kq_278 := ek_good_ok (sp := sQ) (K := []) (SP := []) (HS := [((51, [some (.inr 5, none), some (.inl (0, 19), none), some (.inl (0, 0), none), some (.inl (0, 0), none), some (.inl (0, 15), none), some (.inl ((-1), 18), none)], [], [], []), [(0, (0, 0, 0), 0), (2, (1, 5, 0), (-1)), (0, (0, 0, 0), 0)])]) (N := 3) (fuel := 66) hIQ (fun _ h => absurd h List.not_mem_nil) (by decide +kernel)
def kq_279 : ek := (84, [.inr 30], [], [(28, 5)], [(some (.inl (0, 9)), [])], 0, 0)
/-- LoadsAhead.State draw -/
theorem qk_279 (l : Launch) : ek_ok l tQ iQ kq_279 := ek_good_ok (sp := sQ) (K := []) (SP := []) (HS := []) (N := 0) (fuel := 38) hIQ (fun _ h => absurd h List.not_mem_nil) (by decide +kernel)
def kq_280 : ek := (86, [.inr 18, .inl (0, 19), .inl (0, 3), .inl (0, 240), .inl (0, 15), .inl ((-2147483648), 2147483647), .inl (0, 240), .inl (0, 15)], [], [(22, 999)], [(none, [])], 0, 0)
/-- LoadsAhead.Law tell -/
theorem qk_280 (l : Launch) : ek_ok l tQ iQ kq_280 := ek_good_ok (sp := sQ) (K := []) (SP := []) (HS := []) (N := 0) (fuel := 80) hIQ (fun _ h => absurd h List.not_mem_nil) (by decide +kernel)
def kq_281 : ek := (86, [.inr 18, .inl (0, 19), .inl (0, 3), .inl (0, 240), .inl (16, 16), .inl ((-2147483648), 2147483647), .inl (0, 240), .inl (0, 15)], [], [(22, 999)], [(none, [])], 0, 0)
/-- LoadsAhead.Law tell -/
theorem qk_281 (l : Launch) : ek_ok l tQ iQ kq_281 := ek_good_ok (sp := sQ) (K := []) (SP := []) (HS := []) (N := 0) (fuel := 80) hIQ (fun _ h => absurd h List.not_mem_nil) (by decide +kernel)
def kq_282 : ek := (85, [.inr 5, .inl (0, 19), .inl (0, 15)], [], [(22, 999)], [(none, [])], 1, 27)
/-- LoadsAhead.Machine tellLaw -/
theorem qk_282 (l : Launch) : ek_ok l tQ iQ kq_282 := ek_good_ok (sp := sQ) (K := [kq_281, kq_280]) (SP := []) (HS := []) (N := 0) (fuel := 86) hIQ (List.forall_mem_cons.mpr ⟨qk_281 l, List.forall_mem_cons.mpr ⟨qk_280 l, fun _ h => absurd h List.not_mem_nil⟩⟩) (by decide +kernel)
def kq_287 : ek := (78, [.inr 5, .inl (0, 20)], [], [(30, 999), (33, 999), (41, 999)], [(none, [])], 0, 0)
/-- LoadsAhead.Machine undoDownTo -/
theorem qk_287 (l : Launch) : ek_ok l tQ iQ kq_287 := ek_good_ok (sp := sQ) (K := []) (SP := []) (HS := [((10, [some (.inr 5, none), some (.inl (0, 20), none), some (.inl ((-1), 19), none), none], [], [], []), [(0, (0, 0, 0), 0), (2, (1, 2, 0), (-1)), (0, (0, 0, 0), 1), (0, (0, 0, 0), 0), (0, (0, 0, 0), 0)]), ((26, [some (.inr 5, none), some (.inl (0, 19), none), some (.inl (0, 19), none), some (.inl (0, 4), none)], [], [], []), [(0, (0, 0, 0), 0), (2, (1, 2, 0), (-1)), (0, (0, 0, 0), 0), (1, (1, 3, 0), 4), (0, (0, 0, 0), 0)])]) (N := 5) (fuel := 70) hIQ (fun _ h => absurd h List.not_mem_nil) (by decide +kernel)
def kq_288 : ek := (86, [.inr 18, .inl (0, 19), .inl (0, 3), .inl (0, 240), .inl (0, 15), .inl ((-2147483648), 2147483647), .inl (0, 240), .inl (0, 0)], [], [(22, 999)], [(none, [])], 0, 0)
/-- LoadsAhead.Law tell -/
theorem qk_288 (l : Launch) : ek_ok l tQ iQ kq_288 := ek_good_ok (sp := sQ) (K := []) (SP := []) (HS := []) (N := 0) (fuel := 80) hIQ (fun _ h => absurd h List.not_mem_nil) (by decide +kernel)
def kq_289 : ek := (86, [.inr 18, .inl (0, 19), .inl (0, 3), .inl (0, 240), .inl (16, 16), .inl ((-2147483648), 2147483647), .inl (0, 240), .inl (0, 0)], [], [(22, 999)], [(none, [])], 0, 0)
/-- LoadsAhead.Law tell -/
theorem qk_289 (l : Launch) : ek_ok l tQ iQ kq_289 := ek_good_ok (sp := sQ) (K := []) (SP := []) (HS := []) (N := 0) (fuel := 80) hIQ (fun _ h => absurd h List.not_mem_nil) (by decide +kernel)
def kq_290 : ek := (85, [.inr 5, .inl (0, 19), .inl (0, 0)], [], [(22, 999)], [(none, [])], 1, 27)
/-- LoadsAhead.Machine tellLaw -/
theorem qk_290 (l : Launch) : ek_ok l tQ iQ kq_290 := ek_good_ok (sp := sQ) (K := [kq_289, kq_288]) (SP := []) (HS := []) (N := 0) (fuel := 86) hIQ (List.forall_mem_cons.mpr ⟨qk_289 l, List.forall_mem_cons.mpr ⟨qk_288 l, fun _ h => absurd h List.not_mem_nil⟩⟩) (by decide +kernel)
def kq_291 : ek := (92, [.inr 5], [], [], [(some (.inl (0, 19)), [((2, 4, 11), (1, 20), none)]), (some (.inl ((-1), (-1))), [])], 0, 0)
/-- LoadsAhead.Machine oldestToRetire -/
theorem qk_291 (l : Launch) : ek_ok l tQ iQ kq_291 := ek_good_ok (sp := sQ) (K := []) (SP := []) (HS := [((2, [some (.inr 5, none), some (.inl (0, 20), none)], [], [], []), [(0, (0, 0, 0), 0), (1, (1, 1, 0), 20), (0, (0, 0, 0), 0)])]) (N := 3) (fuel := 60) hIQ (fun _ h => absurd h List.not_mem_nil) (by decide +kernel)
def kq_292 : ek := (93, [.inr 5, .inl (0, 19)], [], [], [(some (.inl (0, 0)), []), (some (.inl (1, 1)), [])], 0, 0)
/-- LoadsAhead.Machine doneAhead -/
theorem qk_292 (l : Launch) : ek_ok l tQ iQ kq_292 := ek_good_ok (sp := sQ) (K := []) (SP := []) (HS := [((2, [some (.inr 5, none), some (.inl (0, 19), none), some (.inl (0, 19), none)], [], [], []), [(0, (0, 0, 0), 0), (1, (1, 2, 0), 19), (0, (0, 0, 0), 0)])]) (N := 3) (fuel := 32) hIQ (fun _ h => absurd h List.not_mem_nil) (by decide +kernel)
def kq_294 : ek := (95, [.inr 30, .inl ((-2147483648), 2147483647), .inl (0, 7), .inl ((-2147483648), 2147483647)], [], [(30, 999)], [(none, [])], 0, 0)
/-- LoadsAhead.State putBytes -/
theorem qk_294 (l : Launch) : ek_ok l tQ iQ kq_294 := ek_good_ok (sp := sQ) (K := []) (SP := []) (HS := [((3, [some (.inr 30, none), some (.inl ((-2147483648), 2147483647), none), some (.inl (0, 7), none), some (.inl ((-2147483648), 2147483647), none), some (.inl (0, 7), none)], [], [], []), [(0, (0, 0, 0), 0), (1, (1, 4, 0), 7), (0, (0, 0, 0), 0)])]) (N := 3) (fuel := 50) hIQ (fun _ h => absurd h List.not_mem_nil) (by decide +kernel)
def kq_296 : ek := (96, [.inr 5], [], [], [(some (.inl (0, 0)), [((2, 4, 11), (1, 20), none)]), (some (.inl (1, 1)), [])], 0, 0)
/-- LoadsAhead.Machine settled -/
theorem qk_296 (l : Launch) : ek_ok l tQ iQ kq_296 := ek_good_ok (sp := sQ) (K := []) (SP := []) (HS := [((2, [some (.inr 5, none), some (.inl (0, 20), none)], [], [], []), [(0, (0, 0, 0), 0), (1, (1, 1, 0), 20), (0, (0, 0, 0), 0)])]) (N := 3) (fuel := 60) hIQ (fun _ h => absurd h List.not_mem_nil) (by decide +kernel)
def kq_297 : ek := (97, [.inr 5], [], [(29, 999)], [(none, [])], 1, 20)
/-- LoadsAhead.Machine giveRegisters -/
theorem qk_297 (l : Launch) : ek_ok l tQ iQ kq_297 := ek_good_ok (sp := sQ) (K := [kq_131, kq_132]) (SP := [(22, [(0, [(-1), 7])])]) (HS := [((2, [some (.inr 5, none), some (.inl (0, 20), none)], [], [], []), [(0, (0, 0, 0), 0), (1, (1, 1, 0), 20), (0, (0, 0, 0), 0)])]) (N := 3) (fuel := 66) hIQ (List.forall_mem_cons.mpr ⟨qk_131 l, List.forall_mem_cons.mpr ⟨qk_132 l, fun _ h => absurd h List.not_mem_nil⟩⟩) (by decide +kernel)
def kq_299 : ek := (62, [.inr 26, .inr 30], [], [(24, 4), (24, 5), (25, 999), (26, 999)], [(none, [])], 1, 65)
/-- LoadsAhead.State copyCellsFrom -/
theorem qk_299 (l : Launch) : ek_ok l tQ iQ kq_299 := ek_good_ok (sp := sQ) (K := []) (SP := []) (HS := []) (N := 0) (fuel := 58) hIQ (fun _ h => absurd h List.not_mem_nil) (by decide +kernel)
def kq_300 : ek := (63, [.inr 26, .inr 30], [], [(24, 3), (27, 999)], [(none, [])], 1, 65)
/-- LoadsAhead.State copySetsFrom -/
theorem qk_300 (l : Launch) : ek_ok l tQ iQ kq_300 := ek_good_ok (sp := sQ) (K := []) (SP := []) (HS := []) (N := 0) (fuel := 34) hIQ (fun _ h => absurd h List.not_mem_nil) (by decide +kernel)
def kq_301 : ek := (61, [.inr 26, .inr 30], [], [(24, 3), (24, 4), (24, 5), (25, 999), (26, 999), (27, 999)], [(none, [])], 2, 86)
/-- LoadsAhead.State copyFrom -/
theorem qk_301 (l : Launch) : ek_ok l tQ iQ kq_301 := ek_good_ok (sp := sQ) (K := [kq_299, kq_300]) (SP := []) (HS := []) (N := 0) (fuel := 22) hIQ (List.forall_mem_cons.mpr ⟨qk_299 l, List.forall_mem_cons.mpr ⟨qk_300 l, fun _ h => absurd h List.not_mem_nil⟩⟩) (by decide +kernel)
def kq_302 : ek := (98, [.inr 73, .inr 34], [], [(72, 999), (73, 999), (74, 999), (75, 999), (76, 999), (77, 999)], [(none, [])], 1, 65)
/-- LoadsAhead.Report copyFrom -/
theorem qk_302 (l : Launch) : ek_ok l tQ iQ kq_302 := ek_good_ok (sp := sQ) (K := []) (SP := []) (HS := []) (N := 0) (fuel := 106) hIQ (fun _ h => absurd h List.not_mem_nil) (by decide +kernel)
def kq_304 : ek := (67, [.inr 6, .inl (0, 15), .inl (0, 0)], [], [], [(some (.inl (0, 63)), [])], 0, 0)
/-- LoadsAhead.Program placeBy -/
theorem qk_304 (l : Launch) : ek_ok l tQ iQ kq_304 := ek_good_ok (sp := sQ) (K := []) (SP := []) (HS := []) (N := 0) (fuel := 26) hIQ (fun _ h => absurd h List.not_mem_nil) (by decide +kernel)
