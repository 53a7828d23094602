def kq_391 : ek := (80, [.inr 6, .inl (0, 0), .inl ((-2147483648), 2147483647), .inl (0, 0)], [], [], [(some (.inl ((-2147483648), 2147483647)), []), (some (.inl (0, 1)), [])], 0, 0)
/-- LoadsAhead.Program reckoned -/
theorem qk_391 (l : Launch) : ek_ok l tQ iQ kq_391 := ek_good_ok (sp := sQ) (K := []) (SP := []) (HS := []) (N := 0) (fuel := 30) hIQ (fun _ h => absurd h List.not_mem_nil) (by decide +kernel)
def kq_392 : ek := (80, [.inr 6, .inl (0, 0), .inl ((-2147483648), 2147483647), .inl ((-2147483648), 2147483647)], [], [], [(some (.inl ((-2147483648), 2147483647)), []), (some (.inl (0, 1)), [])], 0, 0)
/-- LoadsAhead.Program reckoned -/
theorem qk_392 (l : Launch) : ek_ok l tQ iQ kq_392 := ek_good_ok (sp := sQ) (K := []) (SP := []) (HS := []) (N := 0) (fuel := 30) hIQ (fun _ h => absurd h List.not_mem_nil) (by decide +kernel)
def kq_397 : ek := (83, [.inr 5, .inl (0, 15), .inl (0, 0)], [], [], [(some (.inl (0, 0)), []), (some (.inl (1, 1)), [])], 0, 0)
/-- LoadsAhead.Machine mustWait -/
theorem qk_397 (l : Launch) : ek_ok l tQ iQ kq_397 := ek_good_ok (sp := sQ) (K := []) (SP := []) (HS := [((51, [some (.inr 5, none), some (.inl (0, 15), none), some (.inl (0, 0), none), some (.inl (0, 0), none), some (.inl (0, 15), none), some (.inl ((-1), 14), none)], [], [], []), [(0, (0, 0, 0), 0), (2, (1, 5, 0), (-1)), (0, (0, 0, 0), 0)])]) (N := 3) (fuel := 66) hIQ (fun _ h => absurd h List.not_mem_nil) (by decide +kernel)
def kq_398 : ek := (86, [.inr 18, .inl (0, 15), .inl (0, 3), .inl (0, 240), .inl (0, 15), .inl ((-2147483648), 2147483647), .inl (0, 240), .inl (0, 15)], [], [(22, 999)], [(none, [])], 0, 0)
/-- LoadsAhead.Law tell -/
theorem qk_398 (l : Launch) : ek_ok l tQ iQ kq_398 := ek_good_ok (sp := sQ) (K := []) (SP := []) (HS := []) (N := 0) (fuel := 80) hIQ (fun _ h => absurd h List.not_mem_nil) (by decide +kernel)
def kq_399 : ek := (86, [.inr 18, .inl (0, 15), .inl (0, 3), .inl (0, 240), .inl (16, 16), .inl ((-2147483648), 2147483647), .inl (0, 240), .inl (0, 15)], [], [(22, 999)], [(none, [])], 0, 0)
/-- LoadsAhead.Law tell -/
theorem qk_399 (l : Launch) : ek_ok l tQ iQ kq_399 := ek_good_ok (sp := sQ) (K := []) (SP := []) (HS := []) (N := 0) (fuel := 80) hIQ (fun _ h => absurd h List.not_mem_nil) (by decide +kernel)
def kq_400 : ek := (85, [.inr 5, .inl (0, 15), .inl (0, 15)], [], [(22, 999)], [(none, [])], 1, 27)
/-- LoadsAhead.Machine tellLaw -/
theorem qk_400 (l : Launch) : ek_ok l tQ iQ kq_400 := ek_good_ok (sp := sQ) (K := [kq_399, kq_398]) (SP := []) (HS := []) (N := 0) (fuel := 86) hIQ (List.forall_mem_cons.mpr ⟨qk_399 l, List.forall_mem_cons.mpr ⟨qk_398 l, fun _ h => absurd h List.not_mem_nil⟩⟩) (by decide +kernel)
def kq_401 : ek := (83, [.inr 5, .inl (0, 7), .inl (0, 0)], [], [], [(some (.inl (0, 0)), []), (some (.inl (1, 1)), [])], 0, 0)
/-- LoadsAhead.Machine mustWait -/
theorem qk_401 (l : Launch) : ek_ok l tQ iQ kq_401 := ek_good_ok (sp := sQ) (K := []) (SP := []) (HS := [((51, [some (.inr 5, none), some (.inl (0, 7), none), some (.inl (0, 0), none), some (.inl (0, 0), none), some (.inl (0, 15), none), some (.inl ((-1), 6), none)], [], [], []), [(0, (0, 0, 0), 0), (2, (1, 5, 0), (-1)), (0, (0, 0, 0), 0)])]) (N := 3) (fuel := 66) hIQ (fun _ h => absurd h List.not_mem_nil) (by decide +kernel)
def kq_402 : ek := (86, [.inr 18, .inl (0, 7), .inl (0, 3), .inl (0, 240), .inl (0, 15), .inl ((-2147483648), 2147483647), .inl (0, 240), .inl (0, 15)], [], [(22, 999)], [(none, [])], 0, 0)
/-- LoadsAhead.Law tell -/
theorem qk_402 (l : Launch) : ek_ok l tQ iQ kq_402 := ek_good_ok (sp := sQ) (K := []) (SP := []) (HS := []) (N := 0) (fuel := 80) hIQ (fun _ h => absurd h List.not_mem_nil) (by decide +kernel)
def kq_403 : ek := (86, [.inr 18, .inl (0, 7), .inl (0, 3), .inl (0, 240), .inl (16, 16), .inl ((-2147483648), 2147483647), .inl (0, 240), .inl (0, 15)], [], [(22, 999)], [(none, [])], 0, 0)
/-- LoadsAhead.Law tell -/
theorem qk_403 (l : Launch) : ek_ok l tQ iQ kq_403 := ek_good_ok (sp := sQ) (K := []) (SP := []) (HS := []) (N := 0) (fuel := 80) hIQ (fun _ h => absurd h List.not_mem_nil) (by decide +kernel)
def kq_404 : ek := (85, [.inr 5, .inl (0, 7), .inl (0, 15)], [], [(22, 999)], [(none, [])], 1, 27)
/-- LoadsAhead.Machine tellLaw -/
theorem qk_404 (l : Launch) : ek_ok l tQ iQ kq_404 := ek_good_ok (sp := sQ) (K := [kq_403, kq_402]) (SP := []) (HS := []) (N := 0) (fuel := 86) hIQ (List.forall_mem_cons.mpr ⟨qk_403 l, List.forall_mem_cons.mpr ⟨qk_402 l, fun _ h => absurd h List.not_mem_nil⟩⟩) (by decide +kernel)
def kq_405 : ek := (83, [.inr 5, .inl (0, 3), .inl (0, 0)], [], [], [(some (.inl (0, 0)), []), (some (.inl (1, 1)), [])], 0, 0)
/-- LoadsAhead.Machine mustWait -/
theorem qk_405 (l : Launch) : ek_ok l tQ iQ kq_405 := ek_good_ok (sp := sQ) (K := []) (SP := []) (HS := [((51, [some (.inr 5, none), some (.inl (0, 3), none), some (.inl (0, 0), none), some (.inl (0, 0), none), some (.inl (0, 15), none), some (.inl ((-1), 2), none)], [], [], []), [(0, (0, 0, 0), 0), (2, (1, 5, 0), (-1)), (0, (0, 0, 0), 0)])]) (N := 3) (fuel := 66) hIQ (fun _ h => absurd h List.not_mem_nil) (by decide +kernel)
def kq_406 : ek := (86, [.inr 18, .inl (0, 3), .inl (0, 3), .inl (0, 240), .inl (0, 15), .inl ((-2147483648), 2147483647), .inl (0, 240), .inl (0, 15)], [], [(22, 999)], [(none, [])], 0, 0)
/-- LoadsAhead.Law tell -/
theorem qk_406 (l : Launch) : ek_ok l tQ iQ kq_406 := ek_good_ok (sp := sQ) (K := []) (SP := []) (HS := []) (N := 0) (fuel := 80) hIQ (fun _ h => absurd h List.not_mem_nil) (by decide +kernel)
def kq_407 : ek := (86, [.inr 18, .inl (0, 3), .inl (0, 3), .inl (0, 240), .inl (16, 16), .inl ((-2147483648), 2147483647), .inl (0, 240), .inl (0, 15)], [], [(22, 999)], [(none, [])], 0, 0)
/-- LoadsAhead.Law tell -/
theorem qk_407 (l : Launch) : ek_ok l tQ iQ kq_407 := ek_good_ok (sp := sQ) (K := []) (SP := []) (HS := []) (N := 0) (fuel := 80) hIQ (fun _ h => absurd h List.not_mem_nil) (by decide +kernel)
def kq_408 : ek := (85, [.inr 5, .inl (0, 3), .inl (0, 15)], [], [(22, 999)], [(none, [])], 1, 27)
/-- LoadsAhead.Machine tellLaw -/
theorem qk_408 (l : Launch) : ek_ok l tQ iQ kq_408 := ek_good_ok (sp := sQ) (K := [kq_407, kq_406]) (SP := []) (HS := []) (N := 0) (fuel := 86) hIQ (List.forall_mem_cons.mpr ⟨qk_407 l, List.forall_mem_cons.mpr ⟨qk_406 l, fun _ h => absurd h List.not_mem_nil⟩⟩) (by decide +kernel)
def kq_409 : ek := (83, [.inr 5, .inl (0, 1), .inl (0, 0)], [], [], [(some (.inl (0, 0)), []), (some (.inl (1, 1)), [])], 0, 0)
/-- LoadsAhead.Machine mustWait -/
theorem qk_409 (l : Launch) : ek_ok l tQ iQ kq_409 := ek_good_ok (sp := sQ) (K := []) (SP := []) (HS := [((51, [some (.inr 5, none), some (.inl (0, 1), none), some (.inl (0, 0), none), some (.inl (0, 0), none), some (.inl (0, 15), none), some (.inl ((-1), 0), none)], [], [], []), [(0, (0, 0, 0), 0), (2, (1, 5, 0), (-1)), (0, (0, 0, 0), 0)])]) (N := 3) (fuel := 66) hIQ (fun _ h => absurd h List.not_mem_nil) (by decide +kernel)
def kq_410 : ek := (86, [.inr 18, .inl (0, 1), .inl (0, 3), .inl (0, 240), .inl (0, 15), .inl ((-2147483648), 2147483647), .inl (0, 240), .inl (0, 15)], [], [(22, 999)], [(none, [])], 0, 0)
/-- LoadsAhead.Law tell -/
theorem qk_410 (l : Launch) : ek_ok l tQ iQ kq_410 := ek_good_ok (sp := sQ) (K := []) (SP := []) (HS := []) (N := 0) (fuel := 80) hIQ (fun _ h => absurd h List.not_mem_nil) (by decide +kernel)
def kq_411 : ek := (86, [.inr 18, .inl (0, 1), .inl (0, 3), .inl (0, 240), .inl (16, 16), .inl ((-2147483648), 2147483647), .inl (0, 240), .inl (0, 15)], [], [(22, 999)], [(none, [])], 0, 0)
/-- LoadsAhead.Law tell -/
theorem qk_411 (l : Launch) : ek_ok l tQ iQ kq_411 := ek_good_ok (sp := sQ) (K := []) (SP := []) (HS := []) (N := 0) (fuel := 80) hIQ (fun _ h => absurd h List.not_mem_nil) (by decide +kernel)
def kq_412 : ek := (85, [.inr 5, .inl (0, 1), .inl (0, 15)], [], [(22, 999)], [(none, [])], 1, 27)
/-- LoadsAhead.Machine tellLaw -/
theorem qk_412 (l : Launch) : ek_ok l tQ iQ kq_412 := ek_good_ok (sp := sQ) (K := [kq_411, kq_410]) (SP := []) (HS := []) (N := 0) (fuel := 86) hIQ (List.forall_mem_cons.mpr ⟨qk_411 l, List.forall_mem_cons.mpr ⟨qk_410 l, fun _ h => absurd h List.not_mem_nil⟩⟩) (by decide +kernel)
def kq_413 : ek := (83, [.inr 5, .inl (0, 0), .inl (0, 0)], [], [], [(some (.inl (0, 0)), [])], 0, 0)
/-- LoadsAhead.Machine mustWait -/
theorem qk_413 (l : Launch) : ek_ok l tQ iQ kq_413 := ek_good_ok (sp := sQ) (K := []) (SP := []) (HS := [((51, [some (.inr 5, none), some (.inl (0, 0), none), some (.inl (0, 0), none), some (.inl (0, 0), none), some (.inl (0, 15), none), some (.inl ((-1), (-1)), none)], [], [], []), [(0, (0, 0, 0), 0)])]) (N := 1) (fuel := 48) hIQ (fun _ h => absurd h List.not_mem_nil) (by decide +kernel)
def kq_414 : ek := (86, [.inr 18, .inl (0, 0), .inl (0, 3), .inl (0, 240), .inl (0, 15), .inl ((-2147483648), 2147483647), .inl (0, 240), .inl (0, 15)], [], [(22, 999)], [(none, [])], 0, 0)
/-- LoadsAhead.Law tell -/
theorem qk_414 (l : Launch) : ek_ok l tQ iQ kq_414 := ek_good_ok (sp := sQ) (K := []) (SP := []) (HS := []) (N := 0) (fuel := 80) hIQ (fun _ h => absurd h List.not_mem_nil) (by decide +kernel)
def kq_415 : ek := (86, [.inr 18, .inl (0, 0), .inl (0, 3), .inl (0, 240), .inl (16, 16), .inl ((-2147483648), 2147483647), .inl (0, 240), .inl (0, 15)], [], [(22, 999)], [(none, [])], 0, 0)
/-- LoadsAhead.Law tell -/
theorem qk_415 (l : Launch) : ek_ok l tQ iQ kq_415 := ek_good_ok (sp := sQ) (K := []) (SP := []) (HS := []) (N := 0) (fuel := 80) hIQ (fun _ h => absurd h List.not_mem_nil) (by decide +kernel)
def kq_416 : ek := (85, [.inr 5, .inl (0, 0), .inl (0, 15)], [], [(22, 999)], [(none, [])], 1, 27)
/-- LoadsAhead.Machine tellLaw -/
theorem qk_416 (l : Launch) : ek_ok l tQ iQ kq_416 := ek_good_ok (sp := sQ) (K := [kq_415, kq_414]) (SP := []) (HS := []) (N := 0) (fuel := 86) hIQ (List.forall_mem_cons.mpr ⟨qk_415 l, List.forall_mem_cons.mpr ⟨qk_414 l, fun _ h => absurd h List.not_mem_nil⟩⟩) (by decide +kernel)
def kq_417 : ek := (95, [.inr 30, .inl ((-2147483648), 2147483647), .inl (0, 3), .inl ((-2147483648), 2147483647)], [], [(30, 999)], [(none, [])], 0, 0)
/-- LoadsAhead.State putBytes -/
theorem qk_417 (l : Launch) : ek_ok l tQ iQ kq_417 := ek_good_ok (sp := sQ) (K := []) (SP := []) (HS := [((3, [some (.inr 30, none), some (.inl ((-2147483648), 2147483647), none), some (.inl (0, 3), none), some (.inl ((-2147483648), 2147483647), none), some (.inl (0, 3), none)], [], [], []), [(0, (0, 0, 0), 0), (1, (1, 4, 0), 3), (0, (0, 0, 0), 0)])]) (N := 3) (fuel := 50) hIQ (fun _ h => absurd h List.not_mem_nil) (by decide +kernel)
def kq_418 : ek := (95, [.inr 30, .inl ((-2147483648), 2147483647), .inl (0, 1), .inl ((-2147483648), 2147483647)], [], [(30, 999)], [(none, [])], 0, 0)
/-- LoadsAhead.State putBytes -/
theorem qk_418 (l : Launch) : ek_ok l tQ iQ kq_418 := ek_good_ok (sp := sQ) (K := []) (SP := []) (HS := [((3, [some (.inr 30, none), some (.inl ((-2147483648), 2147483647), none), some (.inl (0, 1), none), some (.inl ((-2147483648), 2147483647), none), some (.inl (0, 1), none)], [], [], []), [(0, (0, 0, 0), 0), (1, (1, 4, 0), 1), (0, (0, 0, 0), 0)])]) (N := 3) (fuel := 50) hIQ (fun _ h => absurd h List.not_mem_nil) (by decide +kernel)
def kq_419 : ek := (95, [.inr 30, .inl ((-2147483648), 2147483647), .inl (0, 0), .inl ((-2147483648), 2147483647)], [], [], [(none, [])], 0, 0)
/-- LoadsAhead.State putBytes -/
theorem qk_419 (l : Launch) : ek_ok l tQ iQ kq_419 := ek_good_ok (sp := sQ) (K := []) (SP := []) (HS := [((3, [some (.inr 30, none), some (.inl ((-2147483648), 2147483647), none), some (.inl (0, 0), none), some (.inl ((-2147483648), 2147483647), none), some (.inl (0, 0), none)], [], [], []), [(0, (0, 0, 0), 0)])]) (N := 1) (fuel := 16) hIQ (fun _ h => absurd h List.not_mem_nil) (by decide +kernel)
def kq_420 : ek := (58, [.inr 2, .inl (5, 2147483647)], [], [], [(some (.inl (0, 0)), [])], 0, 0)
/-- LoadsAhead canRun -/
theorem qk_420 (l : Launch) : ek_ok l tQ iQ kq_420 := ek_good_ok (sp := sQ) (K := []) (SP := []) (HS := []) (N := 0) (fuel := 24) hIQ (fun _ h => absurd h List.not_mem_nil) (by decide +kernel)
def kq_421 : ek := (57, [.inr 2, .inl (5, 2147483647)], [], [], [(some (.inl ((-1), (-1))), [])], 1, 21)
/-- LoadsAhead run -/
theorem qk_421 (l : Launch) : ek_ok l tQ iQ kq_421 := ek_good_ok (sp := sQ) (K := [kq_420]) (SP := [(2, [(0, [0, 4])])]) (HS := []) (N := 0) (fuel := 20) hIQ (List.forall_mem_cons.mpr ⟨qk_420 l, fun _ h => absurd h List.not_mem_nil⟩) (by decide +kernel)
def kq_422 : ek := (137, [.inl ((-2147483648), 0), .inl (1, 1), .inl (4, 4)], [], [], [(some (.inl (0, 0)), [])], 0, 0)
/-- LoadsAheadModel in -/
theorem qk_422 (l : Launch) : ek_ok l tQ iQ kq_422 := ek_good_ok (sp := sQ) (K := []) (SP := []) (HS := []) (N := 0) (fuel := 18) hIQ (fun _ h => absurd h List.not_mem_nil) (by decide +kernel)
def kq_423 : ek := (176, [.inr 86, .inl ((-2147483648), 0)], [], [], [(some (.inl (0, 0)), [])], 1, 22)
/-- LoadsAheadModel canRun -/
theorem qk_423 (l : Launch) : ek_ok l tQ iQ kq_423 := ek_good_ok (sp := sQ) (K := [kq_422]) (SP := [(3, [(2, [0, 4])])]) (HS := []) (N := 0) (fuel := 22) hIQ (List.forall_mem_cons.mpr ⟨qk_422 l, fun _ h => absurd h List.not_mem_nil⟩) (by decide +kernel)
def kq_424 : ek := (175, [.inr 86, .inl ((-2147483648), 0)], [], [], [(some (.inl ((-1), (-1))), [])], 2, 43)
/-- LoadsAheadModel run -/
theorem qk_424 (l : Launch) : ek_ok l tQ iQ kq_424 := ek_good_ok (sp := sQ) (K := [kq_423]) (SP := [(2, [(0, [0, 4])])]) (HS := []) (N := 0) (fuel := 20) hIQ (List.forall_mem_cons.mpr ⟨qk_423 l, fun _ h => absurd h List.not_mem_nil⟩) (by decide +kernel)
def kq_425 : ek := (137, [.inl (1, 4), .inl (1, 1), .inl (4, 4)], [], [], [(some (.inl (1, 1)), [])], 0, 0)
/-- LoadsAheadModel in -/
theorem qk_425 (l : Launch) : ek_ok l tQ iQ kq_425 := ek_good_ok (sp := sQ) (K := []) (SP := []) (HS := []) (N := 0) (fuel := 26) hIQ (fun _ h => absurd h List.not_mem_nil) (by decide +kernel)
def kq_426 : ek := (176, [.inr 86, .inl (1, 4)], [], [], [(some (.inl (1, 1)), [((2, 84, 2), (1, 20), none)]), (some (.inl (0, 0)), [((2, 84, 2), (0, 0), none)])], 1, 22)
/-- LoadsAheadModel canRun -/
theorem qk_426 (l : Launch) : ek_ok l tQ iQ kq_426 := ek_good_ok (sp := sQ) (K := [kq_425]) (SP := [(3, [(2, [0, 4])])]) (HS := []) (N := 0) (fuel := 30) hIQ (List.forall_mem_cons.mpr ⟨qk_425 l, fun _ h => absurd h List.not_mem_nil⟩) (by decide +kernel)
def kq_427 : ek := (174, [.inr 86, .inl (0, 19), .inl (0, 7)], [], [], [(some (.inl (1, 1)), []), (some (.inl (0, 0)), [])], 0, 0)
/-- LoadsAheadModel gives -/
theorem qk_427 (l : Launch) : ek_ok l tQ iQ kq_427 := ek_good_ok (sp := sQ) (K := []) (SP := []) (HS := []) (N := 0) (fuel := 38) hIQ (fun _ h => absurd h List.not_mem_nil) (by decide +kernel)
def kq_428 : ek := (173, [.inr 86, .inl (0, 19), .inl (0, 7)], [], [], [(some (.inl (0, 18)), []), (some (.inl ((-1), (-1))), [])], 1, 22)
/-- LoadsAheadModel giverOf -/
theorem qk_428 (l : Launch) : ek_ok l tQ iQ kq_428 := ek_good_ok (sp := sQ) (K := [kq_427]) (SP := []) (HS := [((4, [some (.inr 86, none), some (.inl (0, 19), none), some (.inl (0, 7), none), some (.inl ((-1), 18), none)], [], [], []), [(0, (0, 0, 0), 0), (2, (1, 3, 0), (-1)), (0, (0, 0, 0), 0)])]) (N := 3) (fuel := 28) hIQ (List.forall_mem_cons.mpr ⟨qk_427 l, fun _ h => absurd h List.not_mem_nil⟩) (by decide +kernel)
def kq_429 : ek := (180, [.inr 86, .inl (0, 19), .inl (0, 7)], [], [], [(some (.inl ((-2147483648), 2147483647)), [])], 2, 45)
/-- LoadsAheadModel readBy -/
theorem qk_429 (l : Launch) : ek_ok l tQ iQ kq_429 := ek_good_ok (sp := sQ) (K := [kq_428]) (SP := []) (HS := []) (N := 0) (fuel := 36) hIQ (List.forall_mem_cons.mpr ⟨qk_428 l, fun _ h => absurd h List.not_mem_nil⟩) (by decide +kernel)
def kq_430 : ek := (181, [.inl ((-2147483648), 2147483647), .inl ((-2147483648), 2147483647), .inl ((-2147483648), 2147483647)], [], [], [(some (.inl (0, 1)), []), (some (.inl ((-2147483648), 2147483647)), [])], 0, 0)
/-- LoadsAheadModel reckoned -/
theorem qk_430 (l : Launch) : ek_ok l tQ iQ kq_430 := ek_good_ok (sp := sQ) (K := []) (SP := []) (HS := []) (N := 0) (fuel := 24) hIQ (fun _ h => absurd h List.not_mem_nil) (by decide +kernel)
def kq_431 : ek := (182, [.inr 86, .inl (0, 19)], [], [], [(some (.inl (0, 63)), [])], 3, 68)
/-- LoadsAheadModel placeBy -/
theorem qk_431 (l : Launch) : ek_ok l tQ iQ kq_431 := ek_good_ok (sp := sQ) (K := [kq_429]) (SP := []) (HS := []) (N := 0) (fuel := 54) hIQ (List.forall_mem_cons.mpr ⟨qk_429 l, fun _ h => absurd h List.not_mem_nil⟩) (by decide +kernel)
def kq_432 : ek := (184, [.inr 86, .inl (0, 19), .inl (0, 63)], [], [], [(some (.inl (1, 1)), []), (some (.inl (0, 0)), [])], 0, 0)
/-- LoadsAheadModel covers -/
theorem qk_432 (l : Launch) : ek_ok l tQ iQ kq_432 := ek_good_ok (sp := sQ) (K := []) (SP := []) (HS := []) (N := 0) (fuel := 40) hIQ (fun _ h => absurd h List.not_mem_nil) (by decide +kernel)
def kq_433 : ek := (185, [.inl ((-2147483648), 2147483647), .inl (0, 63)], [], [], [(some (.inl (0, 255)), [])], 0, 0)
/-- LoadsAheadModel byteOf -/
theorem qk_433 (l : Launch) : ek_ok l tQ iQ kq_433 := ek_good_ok (sp := sQ) (K := []) (SP := []) (HS := []) (N := 0) (fuel := 24) hIQ (fun _ h => absurd h List.not_mem_nil) (by decide +kernel)
def kq_434 : ek := (183, [.inr 86, .inl (0, 19)], [], [(120, 999), (124, 999)], [(none, [])], 1, 22)
/-- LoadsAheadModel loads -/
theorem qk_434 (l : Launch) : ek_ok l tQ iQ kq_434 := ek_good_ok (sp := sQ) (K := [kq_432, kq_433]) (SP := []) (HS := [((9, [some (.inr 86, none), some (.inl (0, 19), none), some (.inl (0, 4), none), none, none, none], [], [], []), [(0, (0, 0, 0), 0), (1, (1, 2, 0), 4), (0, (0, 0, 0), 1), (0, (0, 0, 0), 0), (0, (0, 0, 0), 0)]), ((37, [some (.inr 86, none), some (.inl (0, 19), none), some (.inl (0, 3), none), some (.inl (0, 63), none), some (.inl ((-1), 18), none), some (.inl (0, 19), none)], [], [], []), [(0, (0, 0, 0), 0), (1, (1, 2, 0), 4), (0, (0, 0, 0), 0), (1, (1, 5, 0), 19), (0, (0, 0, 0), 0)])]) (N := 5) (fuel := 100) hIQ (List.forall_mem_cons.mpr ⟨qk_432 l, List.forall_mem_cons.mpr ⟨qk_433 l, fun _ h => absurd h List.not_mem_nil⟩⟩) (by decide +kernel)
def kq_435 : ek := (186, [.inl ((-2147483648), 2147483647), .inl ((-1), 4)], [], [], [(some (.inl (0, 65535)), []), (some (.inl ((-2147483648), 2147483647)), [])], 0, 0)
/-- LoadsAheadModel cut -/
theorem qk_435 (l : Launch) : ek_ok l tQ iQ kq_435 := ek_good_ok (sp := sQ) (K := []) (SP := []) (HS := []) (N := 0) (fuel := 30) hIQ (fun _ h => absurd h List.not_mem_nil) (by decide +kernel)
def kq_436 : ek := (188, [.inr 86, .inl (0, 19), .inl (0, 19)], [], [], [(some (.inl (1, 1)), []), (some (.inl (0, 0)), [])], 1, 22)
/-- LoadsAheadModel tookOld -/
theorem qk_436 (l : Launch) : ek_ok l tQ iQ kq_436 := ek_good_ok (sp := sQ) (K := [kq_432]) (SP := []) (HS := [((2, [some (.inr 86, none), some (.inl (0, 19), none), some (.inl (0, 19), none), some (.inl (0, 4), none)], [], [], []), [(0, (0, 0, 0), 0), (1, (1, 3, 0), 4), (0, (0, 0, 0), 0)])]) (N := 3) (fuel := 70) hIQ (List.forall_mem_cons.mpr ⟨qk_432 l, fun _ h => absurd h List.not_mem_nil⟩) (by decide +kernel)
def kq_437 : ek := (190, [.inl (0, 15), .inl (0, 15)], [], [], [(some (.inl (0, 15)), [])], 0, 0)
/-- LoadsAheadModel min -/
theorem qk_437 (l : Launch) : ek_ok l tQ iQ kq_437 := ek_good_ok (sp := sQ) (K := []) (SP := []) (HS := []) (N := 0) (fuel := 20) hIQ (fun _ h => absurd h List.not_mem_nil) (by decide +kernel)
def kq_438 : ek := (189, [.inr 86, .inl (0, 19), .inl (0, 19)], [], [(84, 3), (87, 999)], [(none, [])], 1, 21)
/-- LoadsAheadModel melts -/
theorem qk_438 (l : Launch) : ek_ok l tQ iQ kq_438 := ek_good_ok (sp := sQ) (K := [kq_437]) (SP := []) (HS := []) (N := 0) (fuel := 90) hIQ (List.forall_mem_cons.mpr ⟨qk_437 l, fun _ h => absurd h List.not_mem_nil⟩) (by decide +kernel)
def kq_441 : ek := (172, [.inr 86, .inl (0, 19), .inl (0, 7)], [], [], [(some (.inl (1, 1)), []), (some (.inl (0, 0)), [])], 0, 0)
/-- LoadsAheadModel doesRead -/
theorem qk_441 (l : Launch) : ek_ok l tQ iQ kq_441 := ek_good_ok (sp := sQ) (K := []) (SP := []) (HS := []) (N := 0) (fuel := 48) hIQ (fun _ h => absurd h List.not_mem_nil) (by decide +kernel)
def kq_442 : ek := (197, [.inr 86, .inl (0, 19)], [], [], [(some (.inl (0, 0)), []), (some (.inl (1, 1)), [])], 2, 45)
/-- LoadsAheadModel areSourcesDone -/
theorem qk_442 (l : Launch) : ek_ok l tQ iQ kq_442 := ek_good_ok (sp := sQ) (K := [kq_441, kq_428]) (SP := []) (HS := [((2, [some (.inr 86, none), some (.inl (0, 19), none), some (.inl (0, 8), none), none], [], [], []), [(0, (0, 0, 0), 0), (1, (1, 2, 0), 8), (0, (0, 0, 0), 0)])]) (N := 3) (fuel := 60) hIQ (List.forall_mem_cons.mpr ⟨qk_441 l, List.forall_mem_cons.mpr ⟨qk_428 l, fun _ h => absurd h List.not_mem_nil⟩⟩) (by decide +kernel)
def kq_443 : ek := (199, [.inr 86, .inl (0, 19)], [], [], [(some (.inl (0, 0)), []), (some (.inl (1, 1)), [])], 0, 0)
/-- LoadsAheadModel areStoresDone -/
theorem qk_443 (l : Launch) : ek_ok l tQ iQ kq_443 := ek_good_ok (sp := sQ) (K := []) (SP := []) (HS := [((2, [some (.inr 86, none), some (.inl (0, 19), none), some (.inl (0, 19), none)], [], [], []), [(0, (0, 0, 0), 0), (1, (1, 2, 0), 19), (0, (0, 0, 0), 0)])]) (N := 3) (fuel := 44) hIQ (fun _ h => absurd h List.not_mem_nil) (by decide +kernel)
def kq_444 : ek := (198, [.inr 86, .inl (0, 19)], [], [], [(some (.inl (0, 0)), []), (some (.inl (1, 1)), [])], 1, 22)
/-- LoadsAheadModel isKeptBack -/
theorem qk_444 (l : Launch) : ek_ok l tQ iQ kq_444 := ek_good_ok (sp := sQ) (K := [kq_443]) (SP := []) (HS := [((47, [some (.inr 86, none), some (.inl (0, 19), none), some (.inl ((-1), 18), none)], [], [], []), [(0, (0, 0, 0), 0), (2, (1, 2, 0), (-1)), (0, (0, 0, 0), 0)])]) (N := 3) (fuel := 60) hIQ (List.forall_mem_cons.mpr ⟨qk_443 l, fun _ h => absurd h List.not_mem_nil⟩) (by decide +kernel)
def kq_445 : ek := (201, [.inr 86, .inl (0, 19), .inl (0, 2000), .inl (0, 15)], [], [(109, 999)], [(none, [])], 0, 0)
/-- LoadsAheadModel feels -/
theorem qk_445 (l : Launch) : ek_ok l tQ iQ kq_445 := ek_good_ok (sp := sQ) (K := []) (SP := []) (HS := []) (N := 0) (fuel := 120) hIQ (fun _ h => absurd h List.not_mem_nil) (by decide +kernel)
def kq_448 : ek := (185, [.inl ((-2147483648), 2147483647), .inl (0, 3)], [], [], [(some (.inl (0, 255)), [])], 0, 0)
/-- LoadsAheadModel byteOf -/
theorem qk_448 (l : Launch) : ek_ok l tQ iQ kq_448 := ek_good_ok (sp := sQ) (K := []) (SP := []) (HS := []) (N := 0) (fuel := 24) hIQ (fun _ h => absurd h List.not_mem_nil) (by decide +kernel)
def kq_449 : ek := (196, [.inr 86, .inl (0, 20)], [], [(84, 67), (126, 999), (128, 999)], [(none, [])], 0, 0)
/-- LoadsAheadModel undoesTo -/
theorem qk_449 (l : Launch) : ek_ok l tQ iQ kq_449 := ek_good_ok (sp := sQ) (K := []) (SP := []) (HS := [((7, [some (.inr 86, none), some (.inl (0, 20), none), some (.inl ((-1), 19), none), none], [], [], []), [(0, (0, 0, 0), 0), (2, (1, 2, 0), (-1)), (0, (0, 0, 0), 1), (0, (0, 0, 0), 0), (0, (0, 0, 0), 0)]), ((26, [some (.inr 86, none), some (.inl (0, 19), none), some (.inl (0, 19), none), some (.inl (0, 4), none)], [], [], []), [(0, (0, 0, 0), 0), (2, (1, 2, 0), (-1)), (0, (0, 0, 0), 0), (1, (1, 3, 0), 4), (0, (0, 0, 0), 0)])]) (N := 5) (fuel := 64) hIQ (fun _ h => absurd h List.not_mem_nil) (by decide +kernel)
def kq_450 : ek := (201, [.inr 86, .inl (0, 19), .inl (0, 2000), .inl (0, 0)], [], [(109, 999)], [(none, [])], 0, 0)
/-- LoadsAheadModel feels -/
theorem qk_450 (l : Launch) : ek_ok l tQ iQ kq_450 := ek_good_ok (sp := sQ) (K := []) (SP := []) (HS := []) (N := 0) (fuel := 120) hIQ (fun _ h => absurd h List.not_mem_nil) (by decide +kernel)
