def kq_305 : ek := (69, [.inr 5, .inl (0, 15), .inl (0, 63)], [], [], [(some (.inl (0, 14)), []), (some (.inl ((-1), (-1))), [])], 1, 22)
/-- LoadsAhead.Machine youngestCovering -/
theorem qk_305 (l : Launch) : ek_ok l tQ iQ kq_305 := ek_good_ok (sp := sQ) (K := [kq_259]) (SP := []) (HS := [((4, [some (.inr 5, none), some (.inl (0, 15), none), some (.inl (0, 63), none), some (.inl ((-1), 14), none)], [], [], []), [(0, (0, 0, 0), 0), (2, (1, 3, 0), (-1)), (0, (0, 0, 0), 0)])]) (N := 3) (fuel := 70) hIQ (List.forall_mem_cons.mpr ⟨qk_259 l, fun _ h => absurd h List.not_mem_nil⟩) (by decide +kernel)
def kq_306 : ek := (71, [.inr 5, .inl (0, 15), .inl (0, 63)], [], [], [(some (.inl (0, 255)), [])], 0, 0)
/-- LoadsAhead.Machine storedAt -/
theorem qk_306 (l : Launch) : ek_ok l tQ iQ kq_306 := ek_good_ok (sp := sQ) (K := []) (SP := []) (HS := []) (N := 0) (fuel := 52) hIQ (fun _ h => absurd h List.not_mem_nil) (by decide +kernel)
def kq_307 : ek := (68, [.inr 5, .inl (0, 15)], [], [(36, 999), (38, 999)], [(none, [])], 2, 45)
/-- LoadsAhead.Machine takeBytes -/
theorem qk_307 (l : Launch) : ek_ok l tQ iQ kq_307 := ek_good_ok (sp := sQ) (K := [kq_305, kq_306]) (SP := []) (HS := [((4, [some (.inr 5, none), some (.inl (0, 15), none), some (.inl ((-2147483648), 2147483647), none), some (.inl (0, 4), none), none, none, none], [], [], []), [(0, (0, 0, 0), 0), (1, (1, 3, 0), 4), (0, (0, 0, 0), 0)])]) (N := 3) (fuel := 114) hIQ (List.forall_mem_cons.mpr ⟨qk_305 l, List.forall_mem_cons.mpr ⟨qk_306 l, fun _ h => absurd h List.not_mem_nil⟩⟩) (by decide +kernel)
def kq_308 : ek := (72, [.inr 6, .inl (0, 15), .inl (0, 0)], [], [], [(some (.inl (0, 0)), [])], 0, 0)
/-- LoadsAhead.Program storedOf -/
theorem qk_308 (l : Launch) : ek_ok l tQ iQ kq_308 := ek_good_ok (sp := sQ) (K := []) (SP := []) (HS := []) (N := 0) (fuel := 46) hIQ (fun _ h => absurd h List.not_mem_nil) (by decide +kernel)
def kq_309 : ek := (74, [.inr 5, .inl (0, 19), .inl (0, 15)], [], [], [(some (.inl (1, 1)), []), (some (.inl (0, 0)), [])], 1, 22)
/-- LoadsAhead.Machine tookTooOld -/
theorem qk_309 (l : Launch) : ek_ok l tQ iQ kq_309 := ek_good_ok (sp := sQ) (K := [kq_259]) (SP := []) (HS := [((2, [some (.inr 5, none), some (.inl (0, 19), none), some (.inl (0, 15), none), some (.inl (0, 4), none), none], [], [], []), [(0, (0, 0, 0), 0), (1, (1, 3, 0), 4), (0, (0, 0, 0), 0)])]) (N := 3) (fuel := 96) hIQ (List.forall_mem_cons.mpr ⟨qk_259 l, fun _ h => absurd h List.not_mem_nil⟩) (by decide +kernel)
def kq_310 : ek := (75, [.inr 30, .inl (0, 19), .inl (0, 15)], [], [(28, 3), (31, 999)], [(none, [])], 1, 15)
/-- LoadsAhead.State melt -/
theorem qk_310 (l : Launch) : ek_ok l tQ iQ kq_310 := ek_good_ok (sp := sQ) (K := []) (SP := []) (HS := []) (N := 0) (fuel := 100) hIQ (fun _ h => absurd h List.not_mem_nil) (by decide +kernel)
def kq_311 : ek := (73, [.inr 5, .inl (0, 15)], [], [(28, 3), (30, 999), (31, 999), (33, 999), (35, 999), (39, 999), (41, 999), (43, 999), (44, 999)], [(none, [])], 3, 68)
/-- LoadsAhead.Machine lookBack -/
theorem qk_311 (l : Launch) : ek_ok l tQ iQ kq_311 := ek_good_ok (sp := sQ) (K := [kq_270, kq_310, kq_309]) (SP := []) (HS := [((6, [some (.inr 5, none), some (.inl (0, 15), none), some (.inl (0, 19), none), some (.inl (1, 20), none)], [], [], [(2, 3, (-1))]), [(0, (0, 0, 0), 1), (1, (1, 3, 0), 20), (0, (0, 0, 0), 0)]), ((76, [some (.inr 5, none), some (.inl (0, 15), none), some (.inl (0, 19), none), some (.inl (0, 19), none)], [], [], []), [(0, (0, 0, 0), 0), (1, (1, 3, 0), 19), (0, (0, 0, 0), 0)])]) (N := 3) (fuel := 82) hIQ (List.forall_mem_cons.mpr ⟨qk_270 l, List.forall_mem_cons.mpr ⟨qk_310 l, List.forall_mem_cons.mpr ⟨qk_309 l, fun _ h => absurd h List.not_mem_nil⟩⟩⟩) (by decide +kernel)
def kq_312 : ek := (80, [.inr 6, .inl (0, 15), .inl (0, 0), .inl (0, 0)], [], [], [(some (.inl ((-2147483648), 2147483647)), []), (some (.inl (0, 0)), [])], 0, 0)
/-- LoadsAhead.Program reckoned -/
theorem qk_312 (l : Launch) : ek_ok l tQ iQ kq_312 := ek_good_ok (sp := sQ) (K := []) (SP := []) (HS := []) (N := 0) (fuel := 28) hIQ (fun _ h => absurd h List.not_mem_nil) (by decide +kernel)
def kq_313 : ek := (67, [.inr 6, .inl (0, 15), .inl ((-2147483648), 2147483647)], [], [], [(some (.inl (0, 63)), [])], 0, 0)
/-- LoadsAhead.Program placeBy -/
theorem qk_313 (l : Launch) : ek_ok l tQ iQ kq_313 := ek_good_ok (sp := sQ) (K := []) (SP := []) (HS := []) (N := 0) (fuel := 26) hIQ (fun _ h => absurd h List.not_mem_nil) (by decide +kernel)
def kq_314 : ek := (80, [.inr 6, .inl (0, 15), .inl (0, 0), .inl ((-2147483648), 2147483647)], [], [], [(some (.inl ((-2147483648), 2147483647)), []), (some (.inl (0, 1)), [])], 0, 0)
/-- LoadsAhead.Program reckoned -/
theorem qk_314 (l : Launch) : ek_ok l tQ iQ kq_314 := ek_good_ok (sp := sQ) (K := []) (SP := []) (HS := []) (N := 0) (fuel := 30) hIQ (fun _ h => absurd h List.not_mem_nil) (by decide +kernel)
def kq_315 : ek := (72, [.inr 6, .inl (0, 15), .inl ((-2147483648), 2147483647)], [], [], [(some (.inl ((-2147483648), 2147483647)), [])], 0, 0)
/-- LoadsAhead.Program storedOf -/
theorem qk_315 (l : Launch) : ek_ok l tQ iQ kq_315 := ek_good_ok (sp := sQ) (K := []) (SP := []) (HS := []) (N := 0) (fuel := 46) hIQ (fun _ h => absurd h List.not_mem_nil) (by decide +kernel)
def kq_316 : ek := (80, [.inr 6, .inl (0, 15), .inl ((-2147483648), 2147483647), .inl (0, 0)], [], [], [(some (.inl ((-2147483648), 2147483647)), []), (some (.inl (0, 1)), [])], 0, 0)
/-- LoadsAhead.Program reckoned -/
theorem qk_316 (l : Launch) : ek_ok l tQ iQ kq_316 := ek_good_ok (sp := sQ) (K := []) (SP := []) (HS := []) (N := 0) (fuel := 30) hIQ (fun _ h => absurd h List.not_mem_nil) (by decide +kernel)
def kq_317 : ek := (80, [.inr 6, .inl (0, 15), .inl ((-2147483648), 2147483647), .inl ((-2147483648), 2147483647)], [], [], [(some (.inl ((-2147483648), 2147483647)), []), (some (.inl (0, 1)), [])], 0, 0)
/-- LoadsAhead.Program reckoned -/
theorem qk_317 (l : Launch) : ek_ok l tQ iQ kq_317 := ek_good_ok (sp := sQ) (K := []) (SP := []) (HS := []) (N := 0) (fuel := 30) hIQ (fun _ h => absurd h List.not_mem_nil) (by decide +kernel)
def kq_318 : ek := (67, [.inr 6, .inl (0, 7), .inl (0, 0)], [], [], [(some (.inl (0, 63)), [])], 0, 0)
/-- LoadsAhead.Program placeBy -/
theorem qk_318 (l : Launch) : ek_ok l tQ iQ kq_318 := ek_good_ok (sp := sQ) (K := []) (SP := []) (HS := []) (N := 0) (fuel := 26) hIQ (fun _ h => absurd h List.not_mem_nil) (by decide +kernel)
def kq_319 : ek := (69, [.inr 5, .inl (0, 7), .inl (0, 63)], [], [], [(some (.inl (0, 6)), []), (some (.inl ((-1), (-1))), [])], 1, 22)
/-- LoadsAhead.Machine youngestCovering -/
theorem qk_319 (l : Launch) : ek_ok l tQ iQ kq_319 := ek_good_ok (sp := sQ) (K := [kq_259]) (SP := []) (HS := [((4, [some (.inr 5, none), some (.inl (0, 7), none), some (.inl (0, 63), none), some (.inl ((-1), 6), none)], [], [], []), [(0, (0, 0, 0), 0), (2, (1, 3, 0), (-1)), (0, (0, 0, 0), 0)])]) (N := 3) (fuel := 70) hIQ (List.forall_mem_cons.mpr ⟨qk_259 l, fun _ h => absurd h List.not_mem_nil⟩) (by decide +kernel)
def kq_320 : ek := (71, [.inr 5, .inl (0, 7), .inl (0, 63)], [], [], [(some (.inl (0, 255)), [])], 0, 0)
/-- LoadsAhead.Machine storedAt -/
theorem qk_320 (l : Launch) : ek_ok l tQ iQ kq_320 := ek_good_ok (sp := sQ) (K := []) (SP := []) (HS := []) (N := 0) (fuel := 52) hIQ (fun _ h => absurd h List.not_mem_nil) (by decide +kernel)
def kq_321 : ek := (68, [.inr 5, .inl (0, 7)], [], [(36, 999), (38, 999)], [(none, [])], 2, 45)
/-- LoadsAhead.Machine takeBytes -/
theorem qk_321 (l : Launch) : ek_ok l tQ iQ kq_321 := ek_good_ok (sp := sQ) (K := [kq_320, kq_319]) (SP := []) (HS := [((4, [some (.inr 5, none), some (.inl (0, 7), none), some (.inl ((-2147483648), 2147483647), none), some (.inl (0, 4), none), none, none, none], [], [], []), [(0, (0, 0, 0), 0), (1, (1, 3, 0), 4), (0, (0, 0, 0), 0)])]) (N := 3) (fuel := 114) hIQ (List.forall_mem_cons.mpr ⟨qk_320 l, List.forall_mem_cons.mpr ⟨qk_319 l, fun _ h => absurd h List.not_mem_nil⟩⟩) (by decide +kernel)
def kq_322 : ek := (72, [.inr 6, .inl (0, 7), .inl (0, 0)], [], [], [(some (.inl (0, 0)), [])], 0, 0)
/-- LoadsAhead.Program storedOf -/
theorem qk_322 (l : Launch) : ek_ok l tQ iQ kq_322 := ek_good_ok (sp := sQ) (K := []) (SP := []) (HS := []) (N := 0) (fuel := 46) hIQ (fun _ h => absurd h List.not_mem_nil) (by decide +kernel)
def kq_323 : ek := (74, [.inr 5, .inl (0, 19), .inl (0, 7)], [], [], [(some (.inl (1, 1)), []), (some (.inl (0, 0)), [])], 1, 22)
/-- LoadsAhead.Machine tookTooOld -/
theorem qk_323 (l : Launch) : ek_ok l tQ iQ kq_323 := ek_good_ok (sp := sQ) (K := [kq_259]) (SP := []) (HS := [((2, [some (.inr 5, none), some (.inl (0, 19), none), some (.inl (0, 7), none), some (.inl (0, 4), none), none], [], [], []), [(0, (0, 0, 0), 0), (1, (1, 3, 0), 4), (0, (0, 0, 0), 0)])]) (N := 3) (fuel := 96) hIQ (List.forall_mem_cons.mpr ⟨qk_259 l, fun _ h => absurd h List.not_mem_nil⟩) (by decide +kernel)
def kq_324 : ek := (75, [.inr 30, .inl (0, 19), .inl (0, 7)], [], [(28, 3), (31, 999)], [(none, [])], 1, 15)
/-- LoadsAhead.State melt -/
theorem qk_324 (l : Launch) : ek_ok l tQ iQ kq_324 := ek_good_ok (sp := sQ) (K := []) (SP := []) (HS := []) (N := 0) (fuel := 100) hIQ (fun _ h => absurd h List.not_mem_nil) (by decide +kernel)
def kq_325 : ek := (73, [.inr 5, .inl (0, 7)], [], [(28, 3), (30, 999), (31, 999), (33, 999), (35, 999), (39, 999), (41, 999), (43, 999), (44, 999)], [(none, [])], 3, 68)
/-- LoadsAhead.Machine lookBack -/
theorem qk_325 (l : Launch) : ek_ok l tQ iQ kq_325 := ek_good_ok (sp := sQ) (K := [kq_270, kq_323, kq_324]) (SP := []) (HS := [((6, [some (.inr 5, none), some (.inl (0, 7), none), some (.inl (0, 19), none), some (.inl (1, 20), none)], [], [], [(2, 3, (-1))]), [(0, (0, 0, 0), 1), (1, (1, 3, 0), 20), (0, (0, 0, 0), 0)]), ((76, [some (.inr 5, none), some (.inl (0, 7), none), some (.inl (0, 19), none), some (.inl (0, 19), none)], [], [], []), [(0, (0, 0, 0), 0), (1, (1, 3, 0), 19), (0, (0, 0, 0), 0)])]) (N := 3) (fuel := 82) hIQ (List.forall_mem_cons.mpr ⟨qk_270 l, List.forall_mem_cons.mpr ⟨qk_323 l, List.forall_mem_cons.mpr ⟨qk_324 l, fun _ h => absurd h List.not_mem_nil⟩⟩⟩) (by decide +kernel)
def kq_326 : ek := (74, [.inr 5, .inl (0, 15), .inl (0, 7)], [], [], [(some (.inl (1, 1)), []), (some (.inl (0, 0)), [])], 1, 22)
/-- LoadsAhead.Machine tookTooOld -/
theorem qk_326 (l : Launch) : ek_ok l tQ iQ kq_326 := ek_good_ok (sp := sQ) (K := [kq_259]) (SP := []) (HS := [((2, [some (.inr 5, none), some (.inl (0, 15), none), some (.inl (0, 7), none), some (.inl (0, 4), none), none], [], [], []), [(0, (0, 0, 0), 0), (1, (1, 3, 0), 4), (0, (0, 0, 0), 0)])]) (N := 3) (fuel := 96) hIQ (List.forall_mem_cons.mpr ⟨qk_259 l, fun _ h => absurd h List.not_mem_nil⟩) (by decide +kernel)
def kq_327 : ek := (75, [.inr 30, .inl (0, 15), .inl (0, 7)], [], [(28, 3), (31, 999)], [(none, [])], 1, 15)
/-- LoadsAhead.State melt -/
theorem qk_327 (l : Launch) : ek_ok l tQ iQ kq_327 := ek_good_ok (sp := sQ) (K := []) (SP := []) (HS := []) (N := 0) (fuel := 100) hIQ (fun _ h => absurd h List.not_mem_nil) (by decide +kernel)
def kq_328 : ek := (80, [.inr 6, .inl (0, 7), .inl (0, 0), .inl (0, 0)], [], [], [(some (.inl ((-2147483648), 2147483647)), []), (some (.inl (0, 0)), [])], 0, 0)
/-- LoadsAhead.Program reckoned -/
theorem qk_328 (l : Launch) : ek_ok l tQ iQ kq_328 := ek_good_ok (sp := sQ) (K := []) (SP := []) (HS := []) (N := 0) (fuel := 28) hIQ (fun _ h => absurd h List.not_mem_nil) (by decide +kernel)
def kq_329 : ek := (67, [.inr 6, .inl (0, 7), .inl ((-2147483648), 2147483647)], [], [], [(some (.inl (0, 63)), [])], 0, 0)
/-- LoadsAhead.Program placeBy -/
theorem qk_329 (l : Launch) : ek_ok l tQ iQ kq_329 := ek_good_ok (sp := sQ) (K := []) (SP := []) (HS := []) (N := 0) (fuel := 26) hIQ (fun _ h => absurd h List.not_mem_nil) (by decide +kernel)
def kq_330 : ek := (80, [.inr 6, .inl (0, 7), .inl (0, 0), .inl ((-2147483648), 2147483647)], [], [], [(some (.inl ((-2147483648), 2147483647)), []), (some (.inl (0, 1)), [])], 0, 0)
/-- LoadsAhead.Program reckoned -/
theorem qk_330 (l : Launch) : ek_ok l tQ iQ kq_330 := ek_good_ok (sp := sQ) (K := []) (SP := []) (HS := []) (N := 0) (fuel := 30) hIQ (fun _ h => absurd h List.not_mem_nil) (by decide +kernel)
def kq_331 : ek := (72, [.inr 6, .inl (0, 7), .inl ((-2147483648), 2147483647)], [], [], [(some (.inl ((-2147483648), 2147483647)), [])], 0, 0)
/-- LoadsAhead.Program storedOf -/
theorem qk_331 (l : Launch) : ek_ok l tQ iQ kq_331 := ek_good_ok (sp := sQ) (K := []) (SP := []) (HS := []) (N := 0) (fuel := 46) hIQ (fun _ h => absurd h List.not_mem_nil) (by decide +kernel)
def kq_332 : ek := (80, [.inr 6, .inl (0, 7), .inl ((-2147483648), 2147483647), .inl (0, 0)], [], [], [(some (.inl ((-2147483648), 2147483647)), []), (some (.inl (0, 1)), [])], 0, 0)
/-- LoadsAhead.Program reckoned -/
theorem qk_332 (l : Launch) : ek_ok l tQ iQ kq_332 := ek_good_ok (sp := sQ) (K := []) (SP := []) (HS := []) (N := 0) (fuel := 30) hIQ (fun _ h => absurd h List.not_mem_nil) (by decide +kernel)
def kq_333 : ek := (80, [.inr 6, .inl (0, 7), .inl ((-2147483648), 2147483647), .inl ((-2147483648), 2147483647)], [], [], [(some (.inl ((-2147483648), 2147483647)), []), (some (.inl (0, 1)), [])], 0, 0)
/-- LoadsAhead.Program reckoned -/
theorem qk_333 (l : Launch) : ek_ok l tQ iQ kq_333 := ek_good_ok (sp := sQ) (K := []) (SP := []) (HS := []) (N := 0) (fuel := 30) hIQ (fun _ h => absurd h List.not_mem_nil) (by decide +kernel)
def kq_334 : ek := (67, [.inr 6, .inl (0, 3), .inl (0, 0)], [], [], [(some (.inl (0, 63)), [])], 0, 0)
/-- LoadsAhead.Program placeBy -/
theorem qk_334 (l : Launch) : ek_ok l tQ iQ kq_334 := ek_good_ok (sp := sQ) (K := []) (SP := []) (HS := []) (N := 0) (fuel := 26) hIQ (fun _ h => absurd h List.not_mem_nil) (by decide +kernel)
def kq_335 : ek := (69, [.inr 5, .inl (0, 3), .inl (0, 63)], [], [], [(some (.inl (0, 2)), []), (some (.inl ((-1), (-1))), [])], 1, 22)
/-- LoadsAhead.Machine youngestCovering -/
theorem qk_335 (l : Launch) : ek_ok l tQ iQ kq_335 := ek_good_ok (sp := sQ) (K := [kq_259]) (SP := []) (HS := [((4, [some (.inr 5, none), some (.inl (0, 3), none), some (.inl (0, 63), none), some (.inl ((-1), 2), none)], [], [], []), [(0, (0, 0, 0), 0), (2, (1, 3, 0), (-1)), (0, (0, 0, 0), 0)])]) (N := 3) (fuel := 70) hIQ (List.forall_mem_cons.mpr ⟨qk_259 l, fun _ h => absurd h List.not_mem_nil⟩) (by decide +kernel)
def kq_336 : ek := (71, [.inr 5, .inl (0, 3), .inl (0, 63)], [], [], [(some (.inl (0, 255)), [])], 0, 0)
/-- LoadsAhead.Machine storedAt -/
theorem qk_336 (l : Launch) : ek_ok l tQ iQ kq_336 := ek_good_ok (sp := sQ) (K := []) (SP := []) (HS := []) (N := 0) (fuel := 52) hIQ (fun _ h => absurd h List.not_mem_nil) (by decide +kernel)
def kq_337 : ek := (68, [.inr 5, .inl (0, 3)], [], [(36, 999), (38, 999)], [(none, [])], 2, 45)
/-- LoadsAhead.Machine takeBytes -/
theorem qk_337 (l : Launch) : ek_ok l tQ iQ kq_337 := ek_good_ok (sp := sQ) (K := [kq_335, kq_336]) (SP := []) (HS := [((4, [some (.inr 5, none), some (.inl (0, 3), none), some (.inl ((-2147483648), 2147483647), none), some (.inl (0, 4), none), none, none, none], [], [], []), [(0, (0, 0, 0), 0), (1, (1, 3, 0), 4), (0, (0, 0, 0), 0)])]) (N := 3) (fuel := 114) hIQ (List.forall_mem_cons.mpr ⟨qk_335 l, List.forall_mem_cons.mpr ⟨qk_336 l, fun _ h => absurd h List.not_mem_nil⟩⟩) (by decide +kernel)
def kq_338 : ek := (72, [.inr 6, .inl (0, 3), .inl (0, 0)], [], [], [(some (.inl (0, 0)), [])], 0, 0)
/-- LoadsAhead.Program storedOf -/
theorem qk_338 (l : Launch) : ek_ok l tQ iQ kq_338 := ek_good_ok (sp := sQ) (K := []) (SP := []) (HS := []) (N := 0) (fuel := 46) hIQ (fun _ h => absurd h List.not_mem_nil) (by decide +kernel)
def kq_339 : ek := (74, [.inr 5, .inl (0, 19), .inl (0, 3)], [], [], [(some (.inl (1, 1)), []), (some (.inl (0, 0)), [])], 1, 22)
/-- LoadsAhead.Machine tookTooOld -/
theorem qk_339 (l : Launch) : ek_ok l tQ iQ kq_339 := ek_good_ok (sp := sQ) (K := [kq_259]) (SP := []) (HS := [((2, [some (.inr 5, none), some (.inl (0, 19), none), some (.inl (0, 3), none), some (.inl (0, 4), none), none], [], [], []), [(0, (0, 0, 0), 0), (1, (1, 3, 0), 4), (0, (0, 0, 0), 0)])]) (N := 3) (fuel := 96) hIQ (List.forall_mem_cons.mpr ⟨qk_259 l, fun _ h => absurd h List.not_mem_nil⟩) (by decide +kernel)
def kq_340 : ek := (75, [.inr 30, .inl (0, 19), .inl (0, 3)], [], [(28, 3), (31, 999)], [(none, [])], 1, 15)
/-- LoadsAhead.State melt -/
theorem qk_340 (l : Launch) : ek_ok l tQ iQ kq_340 := ek_good_ok (sp := sQ) (K := []) (SP := []) (HS := []) (N := 0) (fuel := 100) hIQ (fun _ h => absurd h List.not_mem_nil) (by decide +kernel)
def kq_341 : ek := (73, [.inr 5, .inl (0, 3)], [], [(28, 3), (30, 999), (31, 999), (33, 999), (35, 999), (39, 999), (41, 999), (43, 999), (44, 999)], [(none, [])], 3, 68)
/-- LoadsAhead.Machine lookBack -/
theorem qk_341 (l : Launch) : ek_ok l tQ iQ kq_341 := ek_good_ok (sp := sQ) (K := [kq_270, kq_339, kq_340]) (SP := []) (HS := [((6, [some (.inr 5, none), some (.inl (0, 3), none), some (.inl (0, 19), none), some (.inl (1, 20), none)], [], [], [(2, 3, (-1))]), [(0, (0, 0, 0), 1), (1, (1, 3, 0), 20), (0, (0, 0, 0), 0)]), ((76, [some (.inr 5, none), some (.inl (0, 3), none), some (.inl (0, 19), none), some (.inl (0, 19), none)], [], [], []), [(0, (0, 0, 0), 0), (1, (1, 3, 0), 19), (0, (0, 0, 0), 0)])]) (N := 3) (fuel := 82) hIQ (List.forall_mem_cons.mpr ⟨qk_270 l, List.forall_mem_cons.mpr ⟨qk_339 l, List.forall_mem_cons.mpr ⟨qk_340 l, fun _ h => absurd h List.not_mem_nil⟩⟩⟩) (by decide +kernel)
def kq_342 : ek := (74, [.inr 5, .inl (0, 7), .inl (0, 3)], [], [], [(some (.inl (1, 1)), []), (some (.inl (0, 0)), [])], 1, 22)
/-- LoadsAhead.Machine tookTooOld -/
theorem qk_342 (l : Launch) : ek_ok l tQ iQ kq_342 := ek_good_ok (sp := sQ) (K := [kq_259]) (SP := []) (HS := [((2, [some (.inr 5, none), some (.inl (0, 7), none), some (.inl (0, 3), none), some (.inl (0, 4), none), none], [], [], []), [(0, (0, 0, 0), 0), (1, (1, 3, 0), 4), (0, (0, 0, 0), 0)])]) (N := 3) (fuel := 96) hIQ (List.forall_mem_cons.mpr ⟨qk_259 l, fun _ h => absurd h List.not_mem_nil⟩) (by decide +kernel)
def kq_343 : ek := (74, [.inr 5, .inl (0, 15), .inl (0, 3)], [], [], [(some (.inl (1, 1)), []), (some (.inl (0, 0)), [])], 1, 22)
/-- LoadsAhead.Machine tookTooOld -/
theorem qk_343 (l : Launch) : ek_ok l tQ iQ kq_343 := ek_good_ok (sp := sQ) (K := [kq_259]) (SP := []) (HS := [((2, [some (.inr 5, none), some (.inl (0, 15), none), some (.inl (0, 3), none), some (.inl (0, 4), none), none], [], [], []), [(0, (0, 0, 0), 0), (1, (1, 3, 0), 4), (0, (0, 0, 0), 0)])]) (N := 3) (fuel := 96) hIQ (List.forall_mem_cons.mpr ⟨qk_259 l, fun _ h => absurd h List.not_mem_nil⟩) (by decide +kernel)
def kq_344 : ek := (75, [.inr 30, .inl (0, 15), .inl (0, 3)], [], [(28, 3), (31, 999)], [(none, [])], 1, 15)
/-- LoadsAhead.State melt -/
theorem qk_344 (l : Launch) : ek_ok l tQ iQ kq_344 := ek_good_ok (sp := sQ) (K := []) (SP := []) (HS := []) (N := 0) (fuel := 100) hIQ (fun _ h => absurd h List.not_mem_nil) (by decide +kernel)
def kq_345 : ek := (75, [.inr 30, .inl (0, 7), .inl (0, 3)], [], [(28, 3), (31, 999)], [(none, [])], 1, 15)
/-- LoadsAhead.State melt -/
theorem qk_345 (l : Launch) : ek_ok l tQ iQ kq_345 := ek_good_ok (sp := sQ) (K := []) (SP := []) (HS := []) (N := 0) (fuel := 100) hIQ (fun _ h => absurd h List.not_mem_nil) (by decide +kernel)
def kq_346 : ek := (80, [.inr 6, .inl (0, 3), .inl (0, 0), .inl (0, 0)], [], [], [(some (.inl ((-2147483648), 2147483647)), []), (some (.inl (0, 0)), [])], 0, 0)
/-- LoadsAhead.Program reckoned -/
theorem qk_346 (l : Launch) : ek_ok l tQ iQ kq_346 := ek_good_ok (sp := sQ) (K := []) (SP := []) (HS := []) (N := 0) (fuel := 28) hIQ (fun _ h => absurd h List.not_mem_nil) (by decide +kernel)
def kq_347 : ek := (67, [.inr 6, .inl (0, 3), .inl ((-2147483648), 2147483647)], [], [], [(some (.inl (0, 63)), [])], 0, 0)
/-- LoadsAhead.Program placeBy -/
theorem qk_347 (l : Launch) : ek_ok l tQ iQ kq_347 := ek_good_ok (sp := sQ) (K := []) (SP := []) (HS := []) (N := 0) (fuel := 26) hIQ (fun _ h => absurd h List.not_mem_nil) (by decide +kernel)
def kq_348 : ek := (80, [.inr 6, .inl (0, 3), .inl (0, 0), .inl ((-2147483648), 2147483647)], [], [], [(some (.inl ((-2147483648), 2147483647)), []), (some (.inl (0, 1)), [])], 0, 0)
/-- LoadsAhead.Program reckoned -/
theorem qk_348 (l : Launch) : ek_ok l tQ iQ kq_348 := ek_good_ok (sp := sQ) (K := []) (SP := []) (HS := []) (N := 0) (fuel := 30) hIQ (fun _ h => absurd h List.not_mem_nil) (by decide +kernel)
