def kq_355 : ek := (75, [.inr 30, .inl (0, 3), .inl (0, 1)], [], [(28, 3), (31, 999)], [(none, [])], 1, 15)
/-- LoadsAhead.State melt -/
theorem qk_355 (l : Launch) : ek_ok l tQ iQ kq_355 := ek_good_ok (sp := sQ) (K := []) (SP := []) (HS := []) (N := 0) (fuel := 100) hIQ (fun _ h => absurd h List.not_mem_nil) (by decide +kernel)
def kq_356 : ek := (80, [.inr 6, .inl (0, 1), .inl (0, 0), .inl (0, 0)], [], [], [(some (.inl ((-2147483648), 2147483647)), []), (some (.inl (0, 0)), [])], 0, 0)
/-- LoadsAhead.Program reckoned -/
theorem qk_356 (l : Launch) : ek_ok l tQ iQ kq_356 := ek_good_ok (sp := sQ) (K := []) (SP := []) (HS := []) (N := 0) (fuel := 28) hIQ (fun _ h => absurd h List.not_mem_nil) (by decide +kernel)
def kq_357 : ek := (67, [.inr 6, .inl (0, 1), .inl ((-2147483648), 2147483647)], [], [], [(some (.inl (0, 63)), [])], 0, 0)
/-- LoadsAhead.Program placeBy -/
theorem qk_357 (l : Launch) : ek_ok l tQ iQ kq_357 := ek_good_ok (sp := sQ) (K := []) (SP := []) (HS := []) (N := 0) (fuel := 26) hIQ (fun _ h => absurd h List.not_mem_nil) (by decide +kernel)
def kq_358 : ek := (80, [.inr 6, .inl (0, 1), .inl (0, 0), .inl ((-2147483648), 2147483647)], [], [], [(some (.inl ((-2147483648), 2147483647)), []), (some (.inl (0, 1)), [])], 0, 0)
/-- LoadsAhead.Program reckoned -/
theorem qk_358 (l : Launch) : ek_ok l tQ iQ kq_358 := ek_good_ok (sp := sQ) (K := []) (SP := []) (HS := []) (N := 0) (fuel := 30) hIQ (fun _ h => absurd h List.not_mem_nil) (by decide +kernel)
def kq_359 : ek := (72, [.inr 6, .inl (0, 1), .inl ((-2147483648), 2147483647)], [], [], [(some (.inl ((-2147483648), 2147483647)), [])], 0, 0)
/-- LoadsAhead.Program storedOf -/
theorem qk_359 (l : Launch) : ek_ok l tQ iQ kq_359 := ek_good_ok (sp := sQ) (K := []) (SP := []) (HS := []) (N := 0) (fuel := 46) hIQ (fun _ h => absurd h List.not_mem_nil) (by decide +kernel)
def kq_360 : ek := (80, [.inr 6, .inl (0, 1), .inl ((-2147483648), 2147483647), .inl (0, 0)], [], [], [(some (.inl ((-2147483648), 2147483647)), []), (some (.inl (0, 1)), [])], 0, 0)
/-- LoadsAhead.Program reckoned -/
theorem qk_360 (l : Launch) : ek_ok l tQ iQ kq_360 := ek_good_ok (sp := sQ) (K := []) (SP := []) (HS := []) (N := 0) (fuel := 30) hIQ (fun _ h => absurd h List.not_mem_nil) (by decide +kernel)
def kq_361 : ek := (80, [.inr 6, .inl (0, 1), .inl ((-2147483648), 2147483647), .inl ((-2147483648), 2147483647)], [], [], [(some (.inl ((-2147483648), 2147483647)), []), (some (.inl (0, 1)), [])], 0, 0)
/-- LoadsAhead.Program reckoned -/
theorem qk_361 (l : Launch) : ek_ok l tQ iQ kq_361 := ek_good_ok (sp := sQ) (K := []) (SP := []) (HS := []) (N := 0) (fuel := 30) hIQ (fun _ h => absurd h List.not_mem_nil) (by decide +kernel)
def kq_362 : ek := (67, [.inr 6, .inl (0, 0), .inl (0, 0)], [], [], [(some (.inl (0, 63)), [])], 0, 0)
/-- LoadsAhead.Program placeBy -/
theorem qk_362 (l : Launch) : ek_ok l tQ iQ kq_362 := ek_good_ok (sp := sQ) (K := []) (SP := []) (HS := []) (N := 0) (fuel := 26) hIQ (fun _ h => absurd h List.not_mem_nil) (by decide +kernel)
def kq_363 : ek := (69, [.inr 5, .inl (0, 0), .inl (0, 63)], [], [], [(some (.inl ((-1), (-1))), [])], 0, 0)
/-- LoadsAhead.Machine youngestCovering -/
theorem qk_363 (l : Launch) : ek_ok l tQ iQ kq_363 := ek_good_ok (sp := sQ) (K := []) (SP := []) (HS := [((4, [some (.inr 5, none), some (.inl (0, 0), none), some (.inl (0, 63), none), some (.inl ((-1), (-1)), none)], [], [], []), [(0, (0, 0, 0), 0)])]) (N := 1) (fuel := 18) hIQ (fun _ h => absurd h List.not_mem_nil) (by decide +kernel)
def kq_364 : ek := (68, [.inr 5, .inl (0, 0)], [], [(36, 999), (38, 999)], [(none, [])], 1, 23)
/-- LoadsAhead.Machine takeBytes -/
theorem qk_364 (l : Launch) : ek_ok l tQ iQ kq_364 := ek_good_ok (sp := sQ) (K := [kq_363]) (SP := []) (HS := [((4, [some (.inr 5, none), some (.inl (0, 0), none), some (.inl ((-2147483648), 2147483647), none), some (.inl (0, 4), none), none, none, none], [], [], []), [(0, (0, 0, 0), 0), (1, (1, 3, 0), 4), (0, (0, 0, 0), 0)])]) (N := 3) (fuel := 114) hIQ (List.forall_mem_cons.mpr ⟨qk_363 l, fun _ h => absurd h List.not_mem_nil⟩) (by decide +kernel)
def kq_365 : ek := (72, [.inr 6, .inl (0, 0), .inl (0, 0)], [], [], [(some (.inl (0, 0)), [])], 0, 0)
/-- LoadsAhead.Program storedOf -/
theorem qk_365 (l : Launch) : ek_ok l tQ iQ kq_365 := ek_good_ok (sp := sQ) (K := []) (SP := []) (HS := []) (N := 0) (fuel := 46) hIQ (fun _ h => absurd h List.not_mem_nil) (by decide +kernel)
def kq_366 : ek := (74, [.inr 5, .inl (0, 19), .inl (0, 0)], [], [], [(some (.inl (1, 1)), []), (some (.inl (0, 0)), [])], 1, 22)
/-- LoadsAhead.Machine tookTooOld -/
theorem qk_366 (l : Launch) : ek_ok l tQ iQ kq_366 := ek_good_ok (sp := sQ) (K := [kq_249]) (SP := []) (HS := [((2, [some (.inr 5, none), some (.inl (0, 19), none), some (.inl (0, 0), none), some (.inl (0, 4), none), none], [], [], []), [(0, (0, 0, 0), 0), (1, (1, 3, 0), 4), (0, (0, 0, 0), 0)])]) (N := 3) (fuel := 96) hIQ (List.forall_mem_cons.mpr ⟨qk_249 l, fun _ h => absurd h List.not_mem_nil⟩) (by decide +kernel)
def kq_367 : ek := (75, [.inr 30, .inl (0, 19), .inl (0, 0)], [], [(28, 3), (31, 999)], [(none, [])], 1, 15)
/-- LoadsAhead.State melt -/
theorem qk_367 (l : Launch) : ek_ok l tQ iQ kq_367 := ek_good_ok (sp := sQ) (K := []) (SP := []) (HS := []) (N := 0) (fuel := 100) hIQ (fun _ h => absurd h List.not_mem_nil) (by decide +kernel)
def kq_368 : ek := (73, [.inr 5, .inl (0, 0)], [], [(28, 3), (30, 999), (31, 999), (33, 999), (35, 999), (39, 999), (41, 999), (43, 999), (44, 999)], [(none, [])], 3, 68)
/-- LoadsAhead.Machine lookBack -/
theorem qk_368 (l : Launch) : ek_ok l tQ iQ kq_368 := ek_good_ok (sp := sQ) (K := [kq_367, kq_366, kq_260]) (SP := []) (HS := [((6, [some (.inr 5, none), some (.inl (0, 0), none), some (.inl (0, 19), none), some (.inl (1, 20), none)], [], [], [(2, 3, (-1))]), [(0, (0, 0, 0), 1), (1, (1, 3, 0), 20), (0, (0, 0, 0), 0)]), ((76, [some (.inr 5, none), some (.inl (0, 0), none), some (.inl (0, 19), none), some (.inl (0, 19), none)], [], [], []), [(0, (0, 0, 0), 0), (1, (1, 3, 0), 19), (0, (0, 0, 0), 0)])]) (N := 3) (fuel := 82) hIQ (List.forall_mem_cons.mpr ⟨qk_367 l, List.forall_mem_cons.mpr ⟨qk_366 l, List.forall_mem_cons.mpr ⟨qk_260 l, fun _ h => absurd h List.not_mem_nil⟩⟩⟩) (by decide +kernel)
def kq_369 : ek := (74, [.inr 5, .inl (1, 1), .inl (0, 0)], [], [], [(some (.inl (1, 1)), []), (some (.inl (0, 0)), [])], 1, 22)
/-- LoadsAhead.Machine tookTooOld -/
theorem qk_369 (l : Launch) : ek_ok l tQ iQ kq_369 := ek_good_ok (sp := sQ) (K := [kq_249]) (SP := []) (HS := [((2, [some (.inr 5, none), some (.inl (1, 1), none), some (.inl (0, 0), none), some (.inl (0, 4), none), none], [], [], []), [(0, (0, 0, 0), 0), (1, (1, 3, 0), 4), (0, (0, 0, 0), 0)])]) (N := 3) (fuel := 96) hIQ (List.forall_mem_cons.mpr ⟨qk_249 l, fun _ h => absurd h List.not_mem_nil⟩) (by decide +kernel)
def kq_370 : ek := (74, [.inr 5, .inl (0, 3), .inl (0, 0)], [], [], [(some (.inl (1, 1)), []), (some (.inl (0, 0)), [])], 1, 22)
/-- LoadsAhead.Machine tookTooOld -/
theorem qk_370 (l : Launch) : ek_ok l tQ iQ kq_370 := ek_good_ok (sp := sQ) (K := [kq_249]) (SP := []) (HS := [((2, [some (.inr 5, none), some (.inl (0, 3), none), some (.inl (0, 0), none), some (.inl (0, 4), none), none], [], [], []), [(0, (0, 0, 0), 0), (1, (1, 3, 0), 4), (0, (0, 0, 0), 0)])]) (N := 3) (fuel := 96) hIQ (List.forall_mem_cons.mpr ⟨qk_249 l, fun _ h => absurd h List.not_mem_nil⟩) (by decide +kernel)
def kq_371 : ek := (74, [.inr 5, .inl (0, 7), .inl (0, 0)], [], [], [(some (.inl (1, 1)), []), (some (.inl (0, 0)), [])], 1, 22)
/-- LoadsAhead.Machine tookTooOld -/
theorem qk_371 (l : Launch) : ek_ok l tQ iQ kq_371 := ek_good_ok (sp := sQ) (K := [kq_249]) (SP := []) (HS := [((2, [some (.inr 5, none), some (.inl (0, 7), none), some (.inl (0, 0), none), some (.inl (0, 4), none), none], [], [], []), [(0, (0, 0, 0), 0), (1, (1, 3, 0), 4), (0, (0, 0, 0), 0)])]) (N := 3) (fuel := 96) hIQ (List.forall_mem_cons.mpr ⟨qk_249 l, fun _ h => absurd h List.not_mem_nil⟩) (by decide +kernel)
def kq_372 : ek := (74, [.inr 5, .inl (0, 15), .inl (0, 0)], [], [], [(some (.inl (1, 1)), []), (some (.inl (0, 0)), [])], 1, 22)
/-- LoadsAhead.Machine tookTooOld -/
theorem qk_372 (l : Launch) : ek_ok l tQ iQ kq_372 := ek_good_ok (sp := sQ) (K := [kq_249]) (SP := []) (HS := [((2, [some (.inr 5, none), some (.inl (0, 15), none), some (.inl (0, 0), none), some (.inl (0, 4), none), none], [], [], []), [(0, (0, 0, 0), 0), (1, (1, 3, 0), 4), (0, (0, 0, 0), 0)])]) (N := 3) (fuel := 96) hIQ (List.forall_mem_cons.mpr ⟨qk_249 l, fun _ h => absurd h List.not_mem_nil⟩) (by decide +kernel)
def kq_373 : ek := (75, [.inr 30, .inl (0, 15), .inl (0, 0)], [], [(28, 3), (31, 999)], [(none, [])], 1, 15)
/-- LoadsAhead.State melt -/
theorem qk_373 (l : Launch) : ek_ok l tQ iQ kq_373 := ek_good_ok (sp := sQ) (K := []) (SP := []) (HS := []) (N := 0) (fuel := 100) hIQ (fun _ h => absurd h List.not_mem_nil) (by decide +kernel)
def kq_374 : ek := (75, [.inr 30, .inl (0, 7), .inl (0, 0)], [], [(28, 3), (31, 999)], [(none, [])], 1, 15)
/-- LoadsAhead.State melt -/
theorem qk_374 (l : Launch) : ek_ok l tQ iQ kq_374 := ek_good_ok (sp := sQ) (K := []) (SP := []) (HS := []) (N := 0) (fuel := 100) hIQ (fun _ h => absurd h List.not_mem_nil) (by decide +kernel)
def kq_375 : ek := (75, [.inr 30, .inl (0, 3), .inl (0, 0)], [], [(28, 3), (31, 999)], [(none, [])], 1, 15)
/-- LoadsAhead.State melt -/
theorem qk_375 (l : Launch) : ek_ok l tQ iQ kq_375 := ek_good_ok (sp := sQ) (K := []) (SP := []) (HS := []) (N := 0) (fuel := 100) hIQ (fun _ h => absurd h List.not_mem_nil) (by decide +kernel)
def kq_376 : ek := (75, [.inr 30, .inl (1, 1), .inl (0, 0)], [], [(28, 3), (31, 999)], [(none, [])], 1, 15)
/-- LoadsAhead.State melt -/
theorem qk_376 (l : Launch) : ek_ok l tQ iQ kq_376 := ek_good_ok (sp := sQ) (K := []) (SP := []) (HS := []) (N := 0) (fuel := 100) hIQ (fun _ h => absurd h List.not_mem_nil) (by decide +kernel)
def kq_377 : ek := (80, [.inr 6, .inl (0, 0), .inl (0, 0), .inl (0, 0)], [], [], [(some (.inl ((-2147483648), 2147483647)), []), (some (.inl (0, 0)), [])], 0, 0)
/-- LoadsAhead.Program reckoned -/
theorem qk_377 (l : Launch) : ek_ok l tQ iQ kq_377 := ek_good_ok (sp := sQ) (K := []) (SP := []) (HS := []) (N := 0) (fuel := 28) hIQ (fun _ h => absurd h List.not_mem_nil) (by decide +kernel)
def kq_378 : ek := (67, [.inr 6, .inl (0, 0), .inl ((-2147483648), 2147483647)], [], [], [(some (.inl (0, 63)), [])], 0, 0)
/-- LoadsAhead.Program placeBy -/
theorem qk_378 (l : Launch) : ek_ok l tQ iQ kq_378 := ek_good_ok (sp := sQ) (K := []) (SP := []) (HS := []) (N := 0) (fuel := 26) hIQ (fun _ h => absurd h List.not_mem_nil) (by decide +kernel)
def kq_379 : ek := (80, [.inr 6, .inl (0, 0), .inl (0, 0), .inl ((-2147483648), 2147483647)], [], [], [(some (.inl ((-2147483648), 2147483647)), []), (some (.inl (0, 1)), [])], 0, 0)
/-- LoadsAhead.Program reckoned -/
theorem qk_379 (l : Launch) : ek_ok l tQ iQ kq_379 := ek_good_ok (sp := sQ) (K := []) (SP := []) (HS := []) (N := 0) (fuel := 30) hIQ (fun _ h => absurd h List.not_mem_nil) (by decide +kernel)
def kq_380 : ek := (72, [.inr 6, .inl (0, 0), .inl ((-2147483648), 2147483647)], [], [], [(some (.inl ((-2147483648), 2147483647)), [])], 0, 0)
/-- LoadsAhead.Program storedOf -/
theorem qk_380 (l : Launch) : ek_ok l tQ iQ kq_380 := ek_good_ok (sp := sQ) (K := []) (SP := []) (HS := []) (N := 0) (fuel := 46) hIQ (fun _ h => absurd h List.not_mem_nil) (by decide +kernel)
def kq_381 : ek := (80, [.inr 6, .inl (0, 0), .inl ((-2147483648), 2147483647), .inl (0, 0)], [], [], [(some (.inl ((-2147483648), 2147483647)), []), (some (.inl (0, 1)), [])], 0, 0)
/-- LoadsAhead.Program reckoned -/
theorem qk_381 (l : Launch) : ek_ok l tQ iQ kq_381 := ek_good_ok (sp := sQ) (K := []) (SP := []) (HS := []) (N := 0) (fuel := 30) hIQ (fun _ h => absurd h List.not_mem_nil) (by decide +kernel)
def kq_382 : ek := (80, [.inr 6, .inl (0, 0), .inl ((-2147483648), 2147483647), .inl ((-2147483648), 2147483647)], [], [], [(some (.inl ((-2147483648), 2147483647)), []), (some (.inl (0, 1)), [])], 0, 0)
/-- LoadsAhead.Program reckoned -/
theorem qk_382 (l : Launch) : ek_ok l tQ iQ kq_382 := ek_good_ok (sp := sQ) (K := []) (SP := []) (HS := []) (N := 0) (fuel := 30) hIQ (fun _ h => absurd h List.not_mem_nil) (by decide +kernel)
def kq_387 : ek := (83, [.inr 5, .inl (0, 15), .inl (0, 0)], [], [], [(some (.inl (0, 0)), []), (some (.inl (1, 1)), [])], 0, 0)
/-- LoadsAhead.Machine mustWait -/
theorem qk_387 (l : Launch) : ek_ok l tQ iQ kq_387 := ek_good_ok (sp := sQ) (K := []) (SP := []) (HS := [((51, [some (.inr 5, none), some (.inl (0, 15), none), some (.inl (0, 0), none), some (.inl (0, 0), none), some (.inl (0, 15), none), some (.inl ((-1), 14), none)], [], [], []), [(0, (0, 0, 0), 0), (2, (1, 5, 0), (-1)), (0, (0, 0, 0), 0)])]) (N := 3) (fuel := 66) hIQ (fun _ h => absurd h List.not_mem_nil) (by decide +kernel)
def kq_388 : ek := (86, [.inr 18, .inl (0, 15), .inl (0, 3), .inl (0, 240), .inl (0, 15), .inl ((-2147483648), 2147483647), .inl (0, 240), .inl (0, 15)], [], [(22, 999)], [(none, [])], 0, 0)
/-- LoadsAhead.Law tell -/
theorem qk_388 (l : Launch) : ek_ok l tQ iQ kq_388 := ek_good_ok (sp := sQ) (K := []) (SP := []) (HS := []) (N := 0) (fuel := 80) hIQ (fun _ h => absurd h List.not_mem_nil) (by decide +kernel)
def kq_389 : ek := (86, [.inr 18, .inl (0, 15), .inl (0, 3), .inl (0, 240), .inl (16, 16), .inl ((-2147483648), 2147483647), .inl (0, 240), .inl (0, 15)], [], [(22, 999)], [(none, [])], 0, 0)
/-- LoadsAhead.Law tell -/
theorem qk_389 (l : Launch) : ek_ok l tQ iQ kq_389 := ek_good_ok (sp := sQ) (K := []) (SP := []) (HS := []) (N := 0) (fuel := 80) hIQ (fun _ h => absurd h List.not_mem_nil) (by decide +kernel)
def kq_390 : ek := (85, [.inr 5, .inl (0, 15), .inl (0, 15)], [], [(22, 999)], [(none, [])], 1, 27)
/-- LoadsAhead.Machine tellLaw -/
theorem qk_390 (l : Launch) : ek_ok l tQ iQ kq_390 := ek_good_ok (sp := sQ) (K := [kq_389, kq_388]) (SP := []) (HS := []) (N := 0) (fuel := 86) hIQ (List.forall_mem_cons.mpr ⟨qk_389 l, List.forall_mem_cons.mpr ⟨qk_388 l, fun _ h => absurd h List.not_mem_nil⟩⟩) (by decide +kernel)
def kq_391 : ek := (83, [.inr 5, .inl (0, 7), .inl (0, 0)], [], [], [(some (.inl (0, 0)), []), (some (.inl (1, 1)), [])], 0, 0)
/-- LoadsAhead.Machine mustWait -/
theorem qk_391 (l : Launch) : ek_ok l tQ iQ kq_391 := ek_good_ok (sp := sQ) (K := []) (SP := []) (HS := [((51, [some (.inr 5, none), some (.inl (0, 7), none), some (.inl (0, 0), none), some (.inl (0, 0), none), some (.inl (0, 15), none), some (.inl ((-1), 6), none)], [], [], []), [(0, (0, 0, 0), 0), (2, (1, 5, 0), (-1)), (0, (0, 0, 0), 0)])]) (N := 3) (fuel := 66) hIQ (fun _ h => absurd h List.not_mem_nil) (by decide +kernel)
def kq_392 : ek := (86, [.inr 18, .inl (0, 7), .inl (0, 3), .inl (0, 240), .inl (0, 15), .inl ((-2147483648), 2147483647), .inl (0, 240), .inl (0, 15)], [], [(22, 999)], [(none, [])], 0, 0)
/-- LoadsAhead.Law tell -/
theorem qk_392 (l : Launch) : ek_ok l tQ iQ kq_392 := ek_good_ok (sp := sQ) (K := []) (SP := []) (HS := []) (N := 0) (fuel := 80) hIQ (fun _ h => absurd h List.not_mem_nil) (by decide +kernel)
def kq_393 : ek := (86, [.inr 18, .inl (0, 7), .inl (0, 3), .inl (0, 240), .inl (16, 16), .inl ((-2147483648), 2147483647), .inl (0, 240), .inl (0, 15)], [], [(22, 999)], [(none, [])], 0, 0)
/-- LoadsAhead.Law tell -/
theorem qk_393 (l : Launch) : ek_ok l tQ iQ kq_393 := ek_good_ok (sp := sQ) (K := []) (SP := []) (HS := []) (N := 0) (fuel := 80) hIQ (fun _ h => absurd h List.not_mem_nil) (by decide +kernel)
def kq_394 : ek := (85, [.inr 5, .inl (0, 7), .inl (0, 15)], [], [(22, 999)], [(none, [])], 1, 27)
/-- LoadsAhead.Machine tellLaw -/
theorem qk_394 (l : Launch) : ek_ok l tQ iQ kq_394 := ek_good_ok (sp := sQ) (K := [kq_393, kq_392]) (SP := []) (HS := []) (N := 0) (fuel := 86) hIQ (List.forall_mem_cons.mpr ⟨qk_393 l, List.forall_mem_cons.mpr ⟨qk_392 l, fun _ h => absurd h List.not_mem_nil⟩⟩) (by decide +kernel)
def kq_395 : ek := (83, [.inr 5, .inl (0, 3), .inl (0, 0)], [], [], [(some (.inl (0, 0)), []), (some (.inl (1, 1)), [])], 0, 0)
/-- LoadsAhead.Machine mustWait -/
theorem qk_395 (l : Launch) : ek_ok l tQ iQ kq_395 := ek_good_ok (sp := sQ) (K := []) (SP := []) (HS := [((51, [some (.inr 5, none), some (.inl (0, 3), none), some (.inl (0, 0), none), some (.inl (0, 0), none), some (.inl (0, 15), none), some (.inl ((-1), 2), none)], [], [], []), [(0, (0, 0, 0), 0), (2, (1, 5, 0), (-1)), (0, (0, 0, 0), 0)])]) (N := 3) (fuel := 66) hIQ (fun _ h => absurd h List.not_mem_nil) (by decide +kernel)
def kq_396 : ek := (86, [.inr 18, .inl (0, 3), .inl (0, 3), .inl (0, 240), .inl (0, 15), .inl ((-2147483648), 2147483647), .inl (0, 240), .inl (0, 15)], [], [(22, 999)], [(none, [])], 0, 0)
/-- LoadsAhead.Law tell -/
theorem qk_396 (l : Launch) : ek_ok l tQ iQ kq_396 := ek_good_ok (sp := sQ) (K := []) (SP := []) (HS := []) (N := 0) (fuel := 80) hIQ (fun _ h => absurd h List.not_mem_nil) (by decide +kernel)
def kq_397 : ek := (86, [.inr 18, .inl (0, 3), .inl (0, 3), .inl (0, 240), .inl (16, 16), .inl ((-2147483648), 2147483647), .inl (0, 240), .inl (0, 15)], [], [(22, 999)], [(none, [])], 0, 0)
/-- LoadsAhead.Law tell -/
theorem qk_397 (l : Launch) : ek_ok l tQ iQ kq_397 := ek_good_ok (sp := sQ) (K := []) (SP := []) (HS := []) (N := 0) (fuel := 80) hIQ (fun _ h => absurd h List.not_mem_nil) (by decide +kernel)
def kq_398 : ek := (85, [.inr 5, .inl (0, 3), .inl (0, 15)], [], [(22, 999)], [(none, [])], 1, 27)
/-- LoadsAhead.Machine tellLaw -/
theorem qk_398 (l : Launch) : ek_ok l tQ iQ kq_398 := ek_good_ok (sp := sQ) (K := [kq_397, kq_396]) (SP := []) (HS := []) (N := 0) (fuel := 86) hIQ (List.forall_mem_cons.mpr ⟨qk_397 l, List.forall_mem_cons.mpr ⟨qk_396 l, fun _ h => absurd h List.not_mem_nil⟩⟩) (by decide +kernel)
def kq_399 : ek := (83, [.inr 5, .inl (0, 1), .inl (0, 0)], [], [], [(some (.inl (0, 0)), []), (some (.inl (1, 1)), [])], 0, 0)
/-- LoadsAhead.Machine mustWait -/
theorem qk_399 (l : Launch) : ek_ok l tQ iQ kq_399 := ek_good_ok (sp := sQ) (K := []) (SP := []) (HS := [((51, [some (.inr 5, none), some (.inl (0, 1), none), some (.inl (0, 0), none), some (.inl (0, 0), none), some (.inl (0, 15), none), some (.inl ((-1), 0), none)], [], [], []), [(0, (0, 0, 0), 0), (2, (1, 5, 0), (-1)), (0, (0, 0, 0), 0)])]) (N := 3) (fuel := 66) hIQ (fun _ h => absurd h List.not_mem_nil) (by decide +kernel)
def kq_400 : ek := (86, [.inr 18, .inl (0, 1), .inl (0, 3), .inl (0, 240), .inl (0, 15), .inl ((-2147483648), 2147483647), .inl (0, 240), .inl (0, 15)], [], [(22, 999)], [(none, [])], 0, 0)
/-- LoadsAhead.Law tell -/
theorem qk_400 (l : Launch) : ek_ok l tQ iQ kq_400 := ek_good_ok (sp := sQ) (K := []) (SP := []) (HS := []) (N := 0) (fuel := 80) hIQ (fun _ h => absurd h List.not_mem_nil) (by decide +kernel)
def kq_401 : ek := (86, [.inr 18, .inl (0, 1), .inl (0, 3), .inl (0, 240), .inl (16, 16), .inl ((-2147483648), 2147483647), .inl (0, 240), .inl (0, 15)], [], [(22, 999)], [(none, [])], 0, 0)
/-- LoadsAhead.Law tell -/
theorem qk_401 (l : Launch) : ek_ok l tQ iQ kq_401 := ek_good_ok (sp := sQ) (K := []) (SP := []) (HS := []) (N := 0) (fuel := 80) hIQ (fun _ h => absurd h List.not_mem_nil) (by decide +kernel)
def kq_402 : ek := (85, [.inr 5, .inl (0, 1), .inl (0, 15)], [], [(22, 999)], [(none, [])], 1, 27)
/-- LoadsAhead.Machine tellLaw -/
theorem qk_402 (l : Launch) : ek_ok l tQ iQ kq_402 := ek_good_ok (sp := sQ) (K := [kq_401, kq_400]) (SP := []) (HS := []) (N := 0) (fuel := 86) hIQ (List.forall_mem_cons.mpr ⟨qk_401 l, List.forall_mem_cons.mpr ⟨qk_400 l, fun _ h => absurd h List.not_mem_nil⟩⟩) (by decide +kernel)
