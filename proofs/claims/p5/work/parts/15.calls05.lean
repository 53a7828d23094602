def kq_349 : ek := (72, [.inr 6, .inl (0, 3), .inl ((-2147483648), 2147483647)], [], [], [(some (.inl ((-2147483648), 2147483647)), [])], 0, 0)
/-- LoadsAhead.Program storedOf -/
theorem qk_349 (l : Launch) : ek_ok l tQ iQ kq_349 := ek_good_ok (sp := sQ) (K := []) (SP := []) (HS := []) (N := 0) (fuel := 46) hIQ (fun _ h => absurd h List.not_mem_nil) (by decide +kernel)
def kq_350 : ek := (80, [.inr 6, .inl (0, 3), .inl ((-2147483648), 2147483647), .inl (0, 0)], [], [], [(some (.inl ((-2147483648), 2147483647)), []), (some (.inl (0, 1)), [])], 0, 0)
/-- LoadsAhead.Program reckoned -/
theorem qk_350 (l : Launch) : ek_ok l tQ iQ kq_350 := ek_good_ok (sp := sQ) (K := []) (SP := []) (HS := []) (N := 0) (fuel := 30) hIQ (fun _ h => absurd h List.not_mem_nil) (by decide +kernel)
def kq_351 : ek := (80, [.inr 6, .inl (0, 3), .inl ((-2147483648), 2147483647), .inl ((-2147483648), 2147483647)], [], [], [(some (.inl ((-2147483648), 2147483647)), []), (some (.inl (0, 1)), [])], 0, 0)
/-- LoadsAhead.Program reckoned -/
theorem qk_351 (l : Launch) : ek_ok l tQ iQ kq_351 := ek_good_ok (sp := sQ) (K := []) (SP := []) (HS := []) (N := 0) (fuel := 30) hIQ (fun _ h => absurd h List.not_mem_nil) (by decide +kernel)
def kq_352 : ek := (67, [.inr 6, .inl (0, 1), .inl (0, 0)], [], [], [(some (.inl (0, 63)), [])], 0, 0)
/-- LoadsAhead.Program placeBy -/
theorem qk_352 (l : Launch) : ek_ok l tQ iQ kq_352 := ek_good_ok (sp := sQ) (K := []) (SP := []) (HS := []) (N := 0) (fuel := 26) hIQ (fun _ h => absurd h List.not_mem_nil) (by decide +kernel)
def kq_353 : ek := (69, [.inr 5, .inl (0, 1), .inl (0, 63)], [], [], [(some (.inl (0, 0)), []), (some (.inl ((-1), (-1))), [])], 1, 22)
/-- LoadsAhead.Machine youngestCovering -/
theorem qk_353 (l : Launch) : ek_ok l tQ iQ kq_353 := ek_good_ok (sp := sQ) (K := [kq_259]) (SP := []) (HS := [((4, [some (.inr 5, none), some (.inl (0, 1), none), some (.inl (0, 63), none), some (.inl ((-1), 0), none)], [], [], []), [(0, (0, 0, 0), 0), (2, (1, 3, 0), (-1)), (0, (0, 0, 0), 0)])]) (N := 3) (fuel := 70) hIQ (List.forall_mem_cons.mpr ⟨qk_259 l, fun _ h => absurd h List.not_mem_nil⟩) (by decide +kernel)
def kq_354 : ek := (71, [.inr 5, .inl (0, 0), .inl (0, 63)], [], [], [(some (.inl (0, 255)), [])], 0, 0)
/-- LoadsAhead.Machine storedAt -/
theorem qk_354 (l : Launch) : ek_ok l tQ iQ kq_354 := ek_good_ok (sp := sQ) (K := []) (SP := []) (HS := []) (N := 0) (fuel := 52) hIQ (fun _ h => absurd h List.not_mem_nil) (by decide +kernel)
def kq_355 : ek := (68, [.inr 5, .inl (0, 1)], [], [(36, 999), (38, 999)], [(none, [])], 2, 45)
/-- LoadsAhead.Machine takeBytes -/
theorem qk_355 (l : Launch) : ek_ok l tQ iQ kq_355 := ek_good_ok (sp := sQ) (K := [kq_354, kq_353]) (SP := []) (HS := [((4, [some (.inr 5, none), some (.inl (0, 1), none), some (.inl ((-2147483648), 2147483647), none), some (.inl (0, 4), none), none, none, none], [], [], []), [(0, (0, 0, 0), 0), (1, (1, 3, 0), 4), (0, (0, 0, 0), 0)])]) (N := 3) (fuel := 114) hIQ (List.forall_mem_cons.mpr ⟨qk_354 l, List.forall_mem_cons.mpr ⟨qk_353 l, fun _ h => absurd h List.not_mem_nil⟩⟩) (by decide +kernel)
def kq_356 : ek := (72, [.inr 6, .inl (0, 1), .inl (0, 0)], [], [], [(some (.inl (0, 0)), [])], 0, 0)
/-- LoadsAhead.Program storedOf -/
theorem qk_356 (l : Launch) : ek_ok l tQ iQ kq_356 := ek_good_ok (sp := sQ) (K := []) (SP := []) (HS := []) (N := 0) (fuel := 46) hIQ (fun _ h => absurd h List.not_mem_nil) (by decide +kernel)
def kq_357 : ek := (74, [.inr 5, .inl (0, 19), .inl (0, 1)], [], [], [(some (.inl (1, 1)), []), (some (.inl (0, 0)), [])], 1, 22)
/-- LoadsAhead.Machine tookTooOld -/
theorem qk_357 (l : Launch) : ek_ok l tQ iQ kq_357 := ek_good_ok (sp := sQ) (K := [kq_259]) (SP := []) (HS := [((2, [some (.inr 5, none), some (.inl (0, 19), none), some (.inl (0, 1), none), some (.inl (0, 4), none), none], [], [], []), [(0, (0, 0, 0), 0), (1, (1, 3, 0), 4), (0, (0, 0, 0), 0)])]) (N := 3) (fuel := 96) hIQ (List.forall_mem_cons.mpr ⟨qk_259 l, fun _ h => absurd h List.not_mem_nil⟩) (by decide +kernel)
def kq_358 : ek := (75, [.inr 30, .inl (0, 19), .inl (0, 1)], [], [(28, 3), (31, 999)], [(none, [])], 1, 15)
/-- LoadsAhead.State melt -/
theorem qk_358 (l : Launch) : ek_ok l tQ iQ kq_358 := ek_good_ok (sp := sQ) (K := []) (SP := []) (HS := []) (N := 0) (fuel := 100) hIQ (fun _ h => absurd h List.not_mem_nil) (by decide +kernel)
def kq_359 : ek := (73, [.inr 5, .inl (0, 1)], [], [(28, 3), (30, 999), (31, 999), (33, 999), (35, 999), (39, 999), (41, 999), (43, 999), (44, 999)], [(none, [])], 3, 68)
/-- LoadsAhead.Machine lookBack -/
theorem qk_359 (l : Launch) : ek_ok l tQ iQ kq_359 := ek_good_ok (sp := sQ) (K := [kq_270, kq_357, kq_358]) (SP := []) (HS := [((6, [some (.inr 5, none), some (.inl (0, 1), none), some (.inl (0, 19), none), some (.inl (1, 20), none)], [], [], [(2, 3, (-1))]), [(0, (0, 0, 0), 1), (1, (1, 3, 0), 20), (0, (0, 0, 0), 0)]), ((76, [some (.inr 5, none), some (.inl (0, 1), none), some (.inl (0, 19), none), some (.inl (0, 19), none)], [], [], []), [(0, (0, 0, 0), 0), (1, (1, 3, 0), 19), (0, (0, 0, 0), 0)])]) (N := 3) (fuel := 82) hIQ (List.forall_mem_cons.mpr ⟨qk_270 l, List.forall_mem_cons.mpr ⟨qk_357 l, List.forall_mem_cons.mpr ⟨qk_358 l, fun _ h => absurd h List.not_mem_nil⟩⟩⟩) (by decide +kernel)
def kq_360 : ek := (74, [.inr 5, .inl (0, 3), .inl (0, 1)], [], [], [(some (.inl (1, 1)), []), (some (.inl (0, 0)), [])], 1, 22)
/-- LoadsAhead.Machine tookTooOld -/
theorem qk_360 (l : Launch) : ek_ok l tQ iQ kq_360 := ek_good_ok (sp := sQ) (K := [kq_259]) (SP := []) (HS := [((2, [some (.inr 5, none), some (.inl (0, 3), none), some (.inl (0, 1), none), some (.inl (0, 4), none), none], [], [], []), [(0, (0, 0, 0), 0), (1, (1, 3, 0), 4), (0, (0, 0, 0), 0)])]) (N := 3) (fuel := 96) hIQ (List.forall_mem_cons.mpr ⟨qk_259 l, fun _ h => absurd h List.not_mem_nil⟩) (by decide +kernel)
def kq_361 : ek := (74, [.inr 5, .inl (0, 7), .inl (0, 1)], [], [], [(some (.inl (1, 1)), []), (some (.inl (0, 0)), [])], 1, 22)
/-- LoadsAhead.Machine tookTooOld -/
theorem qk_361 (l : Launch) : ek_ok l tQ iQ kq_361 := ek_good_ok (sp := sQ) (K := [kq_259]) (SP := []) (HS := [((2, [some (.inr 5, none), some (.inl (0, 7), none), some (.inl (0, 1), none), some (.inl (0, 4), none), none], [], [], []), [(0, (0, 0, 0), 0), (1, (1, 3, 0), 4), (0, (0, 0, 0), 0)])]) (N := 3) (fuel := 96) hIQ (List.forall_mem_cons.mpr ⟨qk_259 l, fun _ h => absurd h List.not_mem_nil⟩) (by decide +kernel)
def kq_362 : ek := (74, [.inr 5, .inl (0, 15), .inl (0, 1)], [], [], [(some (.inl (1, 1)), []), (some (.inl (0, 0)), [])], 1, 22)
/-- LoadsAhead.Machine tookTooOld -/
theorem qk_362 (l : Launch) : ek_ok l tQ iQ kq_362 := ek_good_ok (sp := sQ) (K := [kq_259]) (SP := []) (HS := [((2, [some (.inr 5, none), some (.inl (0, 15), none), some (.inl (0, 1), none), some (.inl (0, 4), none), none], [], [], []), [(0, (0, 0, 0), 0), (1, (1, 3, 0), 4), (0, (0, 0, 0), 0)])]) (N := 3) (fuel := 96) hIQ (List.forall_mem_cons.mpr ⟨qk_259 l, fun _ h => absurd h List.not_mem_nil⟩) (by decide +kernel)
def kq_363 : ek := (75, [.inr 30, .inl (0, 15), .inl (0, 1)], [], [(28, 3), (31, 999)], [(none, [])], 1, 15)
/-- LoadsAhead.State melt -/
theorem qk_363 (l : Launch) : ek_ok l tQ iQ kq_363 := ek_good_ok (sp := sQ) (K := []) (SP := []) (HS := []) (N := 0) (fuel := 100) hIQ (fun _ h => absurd h List.not_mem_nil) (by decide +kernel)
def kq_364 : ek := (75, [.inr 30, .inl (0, 7), .inl (0, 1)], [], [(28, 3), (31, 999)], [(none, [])], 1, 15)
/-- LoadsAhead.State melt -/
theorem qk_364 (l : Launch) : ek_ok l tQ iQ kq_364 := ek_good_ok (sp := sQ) (K := []) (SP := []) (HS := []) (N := 0) (fuel := 100) hIQ (fun _ h => absurd h List.not_mem_nil) (by decide +kernel)
def kq_365 : ek := (75, [.inr 30, .inl (0, 3), .inl (0, 1)], [], [(28, 3), (31, 999)], [(none, [])], 1, 15)
/-- LoadsAhead.State melt -/
theorem qk_365 (l : Launch) : ek_ok l tQ iQ kq_365 := ek_good_ok (sp := sQ) (K := []) (SP := []) (HS := []) (N := 0) (fuel := 100) hIQ (fun _ h => absurd h List.not_mem_nil) (by decide +kernel)
def kq_366 : ek := (80, [.inr 6, .inl (0, 1), .inl (0, 0), .inl (0, 0)], [], [], [(some (.inl ((-2147483648), 2147483647)), []), (some (.inl (0, 0)), [])], 0, 0)
/-- LoadsAhead.Program reckoned -/
theorem qk_366 (l : Launch) : ek_ok l tQ iQ kq_366 := ek_good_ok (sp := sQ) (K := []) (SP := []) (HS := []) (N := 0) (fuel := 28) hIQ (fun _ h => absurd h List.not_mem_nil) (by decide +kernel)
def kq_367 : ek := (67, [.inr 6, .inl (0, 1), .inl ((-2147483648), 2147483647)], [], [], [(some (.inl (0, 63)), [])], 0, 0)
/-- LoadsAhead.Program placeBy -/
theorem qk_367 (l : Launch) : ek_ok l tQ iQ kq_367 := ek_good_ok (sp := sQ) (K := []) (SP := []) (HS := []) (N := 0) (fuel := 26) hIQ (fun _ h => absurd h List.not_mem_nil) (by decide +kernel)
def kq_368 : ek := (80, [.inr 6, .inl (0, 1), .inl (0, 0), .inl ((-2147483648), 2147483647)], [], [], [(some (.inl ((-2147483648), 2147483647)), []), (some (.inl (0, 1)), [])], 0, 0)
/-- LoadsAhead.Program reckoned -/
theorem qk_368 (l : Launch) : ek_ok l tQ iQ kq_368 := ek_good_ok (sp := sQ) (K := []) (SP := []) (HS := []) (N := 0) (fuel := 30) hIQ (fun _ h => absurd h List.not_mem_nil) (by decide +kernel)
def kq_369 : ek := (72, [.inr 6, .inl (0, 1), .inl ((-2147483648), 2147483647)], [], [], [(some (.inl ((-2147483648), 2147483647)), [])], 0, 0)
/-- LoadsAhead.Program storedOf -/
theorem qk_369 (l : Launch) : ek_ok l tQ iQ kq_369 := ek_good_ok (sp := sQ) (K := []) (SP := []) (HS := []) (N := 0) (fuel := 46) hIQ (fun _ h => absurd h List.not_mem_nil) (by decide +kernel)
def kq_370 : ek := (80, [.inr 6, .inl (0, 1), .inl ((-2147483648), 2147483647), .inl (0, 0)], [], [], [(some (.inl ((-2147483648), 2147483647)), []), (some (.inl (0, 1)), [])], 0, 0)
/-- LoadsAhead.Program reckoned -/
theorem qk_370 (l : Launch) : ek_ok l tQ iQ kq_370 := ek_good_ok (sp := sQ) (K := []) (SP := []) (HS := []) (N := 0) (fuel := 30) hIQ (fun _ h => absurd h List.not_mem_nil) (by decide +kernel)
def kq_371 : ek := (80, [.inr 6, .inl (0, 1), .inl ((-2147483648), 2147483647), .inl ((-2147483648), 2147483647)], [], [], [(some (.inl ((-2147483648), 2147483647)), []), (some (.inl (0, 1)), [])], 0, 0)
/-- LoadsAhead.Program reckoned -/
theorem qk_371 (l : Launch) : ek_ok l tQ iQ kq_371 := ek_good_ok (sp := sQ) (K := []) (SP := []) (HS := []) (N := 0) (fuel := 30) hIQ (fun _ h => absurd h List.not_mem_nil) (by decide +kernel)
def kq_372 : ek := (67, [.inr 6, .inl (0, 0), .inl (0, 0)], [], [], [(some (.inl (0, 63)), [])], 0, 0)
/-- LoadsAhead.Program placeBy -/
theorem qk_372 (l : Launch) : ek_ok l tQ iQ kq_372 := ek_good_ok (sp := sQ) (K := []) (SP := []) (HS := []) (N := 0) (fuel := 26) hIQ (fun _ h => absurd h List.not_mem_nil) (by decide +kernel)
def kq_373 : ek := (69, [.inr 5, .inl (0, 0), .inl (0, 63)], [], [], [(some (.inl ((-1), (-1))), [])], 0, 0)
/-- LoadsAhead.Machine youngestCovering -/
theorem qk_373 (l : Launch) : ek_ok l tQ iQ kq_373 := ek_good_ok (sp := sQ) (K := []) (SP := []) (HS := [((4, [some (.inr 5, none), some (.inl (0, 0), none), some (.inl (0, 63), none), some (.inl ((-1), (-1)), none)], [], [], []), [(0, (0, 0, 0), 0)])]) (N := 1) (fuel := 18) hIQ (fun _ h => absurd h List.not_mem_nil) (by decide +kernel)
def kq_374 : ek := (68, [.inr 5, .inl (0, 0)], [], [(36, 999), (38, 999)], [(none, [])], 1, 23)
/-- LoadsAhead.Machine takeBytes -/
theorem qk_374 (l : Launch) : ek_ok l tQ iQ kq_374 := ek_good_ok (sp := sQ) (K := [kq_373]) (SP := []) (HS := [((4, [some (.inr 5, none), some (.inl (0, 0), none), some (.inl ((-2147483648), 2147483647), none), some (.inl (0, 4), none), none, none, none], [], [], []), [(0, (0, 0, 0), 0), (1, (1, 3, 0), 4), (0, (0, 0, 0), 0)])]) (N := 3) (fuel := 114) hIQ (List.forall_mem_cons.mpr ⟨qk_373 l, fun _ h => absurd h List.not_mem_nil⟩) (by decide +kernel)
def kq_375 : ek := (72, [.inr 6, .inl (0, 0), .inl (0, 0)], [], [], [(some (.inl (0, 0)), [])], 0, 0)
/-- LoadsAhead.Program storedOf -/
theorem qk_375 (l : Launch) : ek_ok l tQ iQ kq_375 := ek_good_ok (sp := sQ) (K := []) (SP := []) (HS := []) (N := 0) (fuel := 46) hIQ (fun _ h => absurd h List.not_mem_nil) (by decide +kernel)
def kq_376 : ek := (74, [.inr 5, .inl (0, 19), .inl (0, 0)], [], [], [(some (.inl (1, 1)), []), (some (.inl (0, 0)), [])], 1, 22)
/-- LoadsAhead.Machine tookTooOld -/
theorem qk_376 (l : Launch) : ek_ok l tQ iQ kq_376 := ek_good_ok (sp := sQ) (K := [kq_259]) (SP := []) (HS := [((2, [some (.inr 5, none), some (.inl (0, 19), none), some (.inl (0, 0), none), some (.inl (0, 4), none), none], [], [], []), [(0, (0, 0, 0), 0), (1, (1, 3, 0), 4), (0, (0, 0, 0), 0)])]) (N := 3) (fuel := 96) hIQ (List.forall_mem_cons.mpr ⟨qk_259 l, fun _ h => absurd h List.not_mem_nil⟩) (by decide +kernel)
def kq_377 : ek := (75, [.inr 30, .inl (0, 19), .inl (0, 0)], [], [(28, 3), (31, 999)], [(none, [])], 1, 15)
/-- LoadsAhead.State melt -/
theorem qk_377 (l : Launch) : ek_ok l tQ iQ kq_377 := ek_good_ok (sp := sQ) (K := []) (SP := []) (HS := []) (N := 0) (fuel := 100) hIQ (fun _ h => absurd h List.not_mem_nil) (by decide +kernel)
def kq_378 : ek := (73, [.inr 5, .inl (0, 0)], [], [(28, 3), (30, 999), (31, 999), (33, 999), (35, 999), (39, 999), (41, 999), (43, 999), (44, 999)], [(none, [])], 3, 68)
/-- LoadsAhead.Machine lookBack -/
theorem qk_378 (l : Launch) : ek_ok l tQ iQ kq_378 := ek_good_ok (sp := sQ) (K := [kq_270, kq_376, kq_377]) (SP := []) (HS := [((6, [some (.inr 5, none), some (.inl (0, 0), none), some (.inl (0, 19), none), some (.inl (1, 20), none)], [], [], [(2, 3, (-1))]), [(0, (0, 0, 0), 1), (1, (1, 3, 0), 20), (0, (0, 0, 0), 0)]), ((76, [some (.inr 5, none), some (.inl (0, 0), none), some (.inl (0, 19), none), some (.inl (0, 19), none)], [], [], []), [(0, (0, 0, 0), 0), (1, (1, 3, 0), 19), (0, (0, 0, 0), 0)])]) (N := 3) (fuel := 82) hIQ (List.forall_mem_cons.mpr ⟨qk_270 l, List.forall_mem_cons.mpr ⟨qk_376 l, List.forall_mem_cons.mpr ⟨qk_377 l, fun _ h => absurd h List.not_mem_nil⟩⟩⟩) (by decide +kernel)
def kq_379 : ek := (74, [.inr 5, .inl (1, 1), .inl (0, 0)], [], [], [(some (.inl (1, 1)), []), (some (.inl (0, 0)), [])], 1, 22)
/-- LoadsAhead.Machine tookTooOld -/
theorem qk_379 (l : Launch) : ek_ok l tQ iQ kq_379 := ek_good_ok (sp := sQ) (K := [kq_259]) (SP := []) (HS := [((2, [some (.inr 5, none), some (.inl (1, 1), none), some (.inl (0, 0), none), some (.inl (0, 4), none), none], [], [], []), [(0, (0, 0, 0), 0), (1, (1, 3, 0), 4), (0, (0, 0, 0), 0)])]) (N := 3) (fuel := 96) hIQ (List.forall_mem_cons.mpr ⟨qk_259 l, fun _ h => absurd h List.not_mem_nil⟩) (by decide +kernel)
def kq_380 : ek := (74, [.inr 5, .inl (0, 3), .inl (0, 0)], [], [], [(some (.inl (1, 1)), []), (some (.inl (0, 0)), [])], 1, 22)
/-- LoadsAhead.Machine tookTooOld -/
theorem qk_380 (l : Launch) : ek_ok l tQ iQ kq_380 := ek_good_ok (sp := sQ) (K := [kq_259]) (SP := []) (HS := [((2, [some (.inr 5, none), some (.inl (0, 3), none), some (.inl (0, 0), none), some (.inl (0, 4), none), none], [], [], []), [(0, (0, 0, 0), 0), (1, (1, 3, 0), 4), (0, (0, 0, 0), 0)])]) (N := 3) (fuel := 96) hIQ (List.forall_mem_cons.mpr ⟨qk_259 l, fun _ h => absurd h List.not_mem_nil⟩) (by decide +kernel)
def kq_381 : ek := (74, [.inr 5, .inl (0, 7), .inl (0, 0)], [], [], [(some (.inl (1, 1)), []), (some (.inl (0, 0)), [])], 1, 22)
/-- LoadsAhead.Machine tookTooOld -/
theorem qk_381 (l : Launch) : ek_ok l tQ iQ kq_381 := ek_good_ok (sp := sQ) (K := [kq_259]) (SP := []) (HS := [((2, [some (.inr 5, none), some (.inl (0, 7), none), some (.inl (0, 0), none), some (.inl (0, 4), none), none], [], [], []), [(0, (0, 0, 0), 0), (1, (1, 3, 0), 4), (0, (0, 0, 0), 0)])]) (N := 3) (fuel := 96) hIQ (List.forall_mem_cons.mpr ⟨qk_259 l, fun _ h => absurd h List.not_mem_nil⟩) (by decide +kernel)
def kq_382 : ek := (74, [.inr 5, .inl (0, 15), .inl (0, 0)], [], [], [(some (.inl (1, 1)), []), (some (.inl (0, 0)), [])], 1, 22)
/-- LoadsAhead.Machine tookTooOld -/
theorem qk_382 (l : Launch) : ek_ok l tQ iQ kq_382 := ek_good_ok (sp := sQ) (K := [kq_259]) (SP := []) (HS := [((2, [some (.inr 5, none), some (.inl (0, 15), none), some (.inl (0, 0), none), some (.inl (0, 4), none), none], [], [], []), [(0, (0, 0, 0), 0), (1, (1, 3, 0), 4), (0, (0, 0, 0), 0)])]) (N := 3) (fuel := 96) hIQ (List.forall_mem_cons.mpr ⟨qk_259 l, fun _ h => absurd h List.not_mem_nil⟩) (by decide +kernel)
def kq_383 : ek := (75, [.inr 30, .inl (0, 15), .inl (0, 0)], [], [(28, 3), (31, 999)], [(none, [])], 1, 15)
/-- LoadsAhead.State melt -/
theorem qk_383 (l : Launch) : ek_ok l tQ iQ kq_383 := ek_good_ok (sp := sQ) (K := []) (SP := []) (HS := []) (N := 0) (fuel := 100) hIQ (fun _ h => absurd h List.not_mem_nil) (by decide +kernel)
def kq_384 : ek := (75, [.inr 30, .inl (0, 7), .inl (0, 0)], [], [(28, 3), (31, 999)], [(none, [])], 1, 15)
/-- LoadsAhead.State melt -/
theorem qk_384 (l : Launch) : ek_ok l tQ iQ kq_384 := ek_good_ok (sp := sQ) (K := []) (SP := []) (HS := []) (N := 0) (fuel := 100) hIQ (fun _ h => absurd h List.not_mem_nil) (by decide +kernel)
def kq_385 : ek := (75, [.inr 30, .inl (0, 3), .inl (0, 0)], [], [(28, 3), (31, 999)], [(none, [])], 1, 15)
/-- LoadsAhead.State melt -/
theorem qk_385 (l : Launch) : ek_ok l tQ iQ kq_385 := ek_good_ok (sp := sQ) (K := []) (SP := []) (HS := []) (N := 0) (fuel := 100) hIQ (fun _ h => absurd h List.not_mem_nil) (by decide +kernel)
def kq_386 : ek := (75, [.inr 30, .inl (1, 1), .inl (0, 0)], [], [(28, 3), (31, 999)], [(none, [])], 1, 15)
/-- LoadsAhead.State melt -/
theorem qk_386 (l : Launch) : ek_ok l tQ iQ kq_386 := ek_good_ok (sp := sQ) (K := []) (SP := []) (HS := []) (N := 0) (fuel := 100) hIQ (fun _ h => absurd h List.not_mem_nil) (by decide +kernel)
def kq_387 : ek := (80, [.inr 6, .inl (0, 0), .inl (0, 0), .inl (0, 0)], [], [], [(some (.inl ((-2147483648), 2147483647)), []), (some (.inl (0, 0)), [])], 0, 0)
/-- LoadsAhead.Program reckoned -/
theorem qk_387 (l : Launch) : ek_ok l tQ iQ kq_387 := ek_good_ok (sp := sQ) (K := []) (SP := []) (HS := []) (N := 0) (fuel := 28) hIQ (fun _ h => absurd h List.not_mem_nil) (by decide +kernel)
def kq_388 : ek := (67, [.inr 6, .inl (0, 0), .inl ((-2147483648), 2147483647)], [], [], [(some (.inl (0, 63)), [])], 0, 0)
/-- LoadsAhead.Program placeBy -/
theorem qk_388 (l : Launch) : ek_ok l tQ iQ kq_388 := ek_good_ok (sp := sQ) (K := []) (SP := []) (HS := []) (N := 0) (fuel := 26) hIQ (fun _ h => absurd h List.not_mem_nil) (by decide +kernel)
def kq_389 : ek := (80, [.inr 6, .inl (0, 0), .inl (0, 0), .inl ((-2147483648), 2147483647)], [], [], [(some (.inl ((-2147483648), 2147483647)), []), (some (.inl (0, 1)), [])], 0, 0)
/-- LoadsAhead.Program reckoned -/
theorem qk_389 (l : Launch) : ek_ok l tQ iQ kq_389 := ek_good_ok (sp := sQ) (K := []) (SP := []) (HS := []) (N := 0) (fuel := 30) hIQ (fun _ h => absurd h List.not_mem_nil) (by decide +kernel)
def kq_390 : ek := (72, [.inr 6, .inl (0, 0), .inl ((-2147483648), 2147483647)], [], [], [(some (.inl ((-2147483648), 2147483647)), [])], 0, 0)
/-- LoadsAhead.Program storedOf -/
theorem qk_390 (l : Launch) : ek_ok l tQ iQ kq_390 := ek_good_ok (sp := sQ) (K := []) (SP := []) (HS := []) (N := 0) (fuel := 46) hIQ (fun _ h => absurd h List.not_mem_nil) (by decide +kernel)
