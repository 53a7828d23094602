def kq_451 : ek := (206, [.inr 86], [], [], [(some (.inl (0, 19)), [((2, 84, 2), (1, 20), none)]), (some (.inl ((-1), (-1))), [])], 0, 0)
/-- LoadsAheadModel oldestToRetire -/
theorem qk_451 (l : Launch) : ek_ok l tQ iQ kq_451 := ek_good_ok (sp := sQ) (K := []) (SP := []) (HS := [((2, [some (.inr 86, none), some (.inl (0, 20), none)], [], [], []), [(0, (0, 0, 0), 0), (1, (1, 1, 0), 20), (0, (0, 0, 0), 0)])]) (N := 3) (fuel := 56) hIQ (fun _ h => absurd h List.not_mem_nil) (by decide +kernel)
def kq_452 : ek := (207, [.inr 86, .inl (0, 19)], [], [], [(some (.inl (0, 0)), []), (some (.inl (1, 1)), [])], 0, 0)
/-- LoadsAheadModel areAllDone -/
theorem qk_452 (l : Launch) : ek_ok l tQ iQ kq_452 := ek_good_ok (sp := sQ) (K := []) (SP := []) (HS := [((2, [some (.inr 86, none), some (.inl (0, 19), none), some (.inl (0, 19), none)], [], [], []), [(0, (0, 0, 0), 0), (1, (1, 2, 0), 19), (0, (0, 0, 0), 0)])]) (N := 3) (fuel := 32) hIQ (fun _ h => absurd h List.not_mem_nil) (by decide +kernel)
def kq_456 : ek := (173, [.inr 86, .inl (0, 20), .inl (0, 7)], [], [], [(some (.inl (0, 19)), []), (some (.inl ((-1), (-1))), [])], 1, 22)
/-- LoadsAheadModel giverOf -/
theorem qk_456 (l : Launch) : ek_ok l tQ iQ kq_456 := ek_good_ok (sp := sQ) (K := [kq_427]) (SP := []) (HS := [((4, [some (.inr 86, none), some (.inl (0, 20), none), some (.inl (0, 7), none), some (.inl ((-1), 19), none)], [], [], []), [(0, (0, 0, 0), 0), (2, (1, 3, 0), (-1)), (0, (0, 0, 0), 0)])]) (N := 3) (fuel := 28) hIQ (List.forall_mem_cons.mpr ⟨qk_427 l, fun _ h => absurd h List.not_mem_nil⟩) (by decide +kernel)
def kq_457 : ek := (180, [.inr 86, .inl (0, 20), .inl (0, 7)], [], [], [(some (.inl ((-2147483648), 2147483647)), [])], 2, 45)
/-- LoadsAheadModel readBy -/
theorem qk_457 (l : Launch) : ek_ok l tQ iQ kq_457 := ek_good_ok (sp := sQ) (K := [kq_456]) (SP := []) (HS := []) (N := 0) (fuel := 36) hIQ (List.forall_mem_cons.mpr ⟨qk_456 l, fun _ h => absurd h List.not_mem_nil⟩) (by decide +kernel)
def kq_458 : ek := (209, [.inr 86], [], [], [(some (.inl (0, 0)), [((2, 84, 2), (1, 20), none)]), (some (.inl (1, 1)), [])], 0, 0)
/-- LoadsAheadModel isOver -/
theorem qk_458 (l : Launch) : ek_ok l tQ iQ kq_458 := ek_good_ok (sp := sQ) (K := []) (SP := []) (HS := [((2, [some (.inr 86, none), some (.inl (0, 20), none)], [], [], []), [(0, (0, 0, 0), 0), (1, (1, 1, 0), 20), (0, (0, 0, 0), 0)])]) (N := 3) (fuel := 56) hIQ (fun _ h => absurd h List.not_mem_nil) (by decide +kernel)
def kq_460 : ek := (190, [.inl (9999, 9999), .inl (1, 10000)], [], [], [(some (.inl (1, 9999)), [])], 0, 0)
/-- LoadsAheadModel min -/
theorem qk_460 (l : Launch) : ek_ok l tQ iQ kq_460 := ek_good_ok (sp := sQ) (K := []) (SP := []) (HS := []) (N := 0) (fuel := 20) hIQ (fun _ h => absurd h List.not_mem_nil) (by decide +kernel)
def kq_461 : ek := (210, [.inr 86], [], [(84, 3), (87, 999)], [(none, [])], 0, 0)
/-- LoadsAheadModel putsSetsBack -/
theorem qk_461 (l : Launch) : ek_ok l tQ iQ kq_461 := ek_good_ok (sp := sQ) (K := []) (SP := []) (HS := [((2, [some (.inr 86, none), some (.inl (0, 20), none)], [], [], []), [(0, (0, 0, 0), 0), (1, (1, 1, 0), 20), (0, (0, 0, 0), 0)])]) (N := 3) (fuel := 38) hIQ (fun _ h => absurd h List.not_mem_nil) (by decide +kernel)
def kq_462 : ek := (211, [.inr 86, .inl (0, 7)], [], [], [(some (.inl ((-2147483648), 2147483647)), [])], 0, 0)
/-- LoadsAheadModel toldOf -/
theorem qk_462 (l : Launch) : ek_ok l tQ iQ kq_462 := ek_good_ok (sp := sQ) (K := []) (SP := []) (HS := []) (N := 0) (fuel := 18) hIQ (fun _ h => absurd h List.not_mem_nil) (by decide +kernel)
def kq_465 : ek := (201, [.inr 86, .inl (0, 19), .inl (0, 0), .inl (0, 15)], [], [(109, 999)], [(none, [])], 0, 0)
/-- LoadsAheadModel feels -/
theorem qk_465 (l : Launch) : ek_ok l tQ iQ kq_465 := ek_good_ok (sp := sQ) (K := []) (SP := []) (HS := []) (N := 0) (fuel := 120) hIQ (fun _ h => absurd h List.not_mem_nil) (by decide +kernel)
def kq_467 : ek := (201, [.inr 86, .inl (0, 19), .inl (0, 0), .inl (0, 0)], [], [(109, 999)], [(none, [])], 0, 0)
/-- LoadsAheadModel feels -/
theorem qk_467 (l : Launch) : ek_ok l tQ iQ kq_467 := ek_good_ok (sp := sQ) (K := []) (SP := []) (HS := []) (N := 0) (fuel := 120) hIQ (fun _ h => absurd h List.not_mem_nil) (by decide +kernel)
def kq_470 : ek := (173, [.inr 86, .inl (0, 0), .inl (0, 7)], [], [], [(some (.inl ((-1), (-1))), [])], 0, 0)
/-- LoadsAheadModel giverOf -/
theorem qk_470 (l : Launch) : ek_ok l tQ iQ kq_470 := ek_good_ok (sp := sQ) (K := []) (SP := []) (HS := [((4, [some (.inr 86, none), some (.inl (0, 0), none), some (.inl (0, 7), none), some (.inl ((-1), (-1)), none)], [], [], []), [(0, (0, 0, 0), 0)])]) (N := 1) (fuel := 18) hIQ (fun _ h => absurd h List.not_mem_nil) (by decide +kernel)
def kq_471 : ek := (180, [.inr 86, .inl (0, 0), .inl (0, 7)], [], [], [(some (.inl ((-2147483648), 2147483647)), [])], 1, 23)
/-- LoadsAheadModel readBy -/
theorem qk_471 (l : Launch) : ek_ok l tQ iQ kq_471 := ek_good_ok (sp := sQ) (K := [kq_470]) (SP := []) (HS := []) (N := 0) (fuel := 36) hIQ (List.forall_mem_cons.mpr ⟨qk_470 l, fun _ h => absurd h List.not_mem_nil⟩) (by decide +kernel)
def kq_472 : ek := (182, [.inr 86, .inl (0, 0)], [], [], [(some (.inl (0, 63)), [])], 2, 46)
/-- LoadsAheadModel placeBy -/
theorem qk_472 (l : Launch) : ek_ok l tQ iQ kq_472 := ek_good_ok (sp := sQ) (K := [kq_471]) (SP := []) (HS := []) (N := 0) (fuel := 54) hIQ (List.forall_mem_cons.mpr ⟨qk_471 l, fun _ h => absurd h List.not_mem_nil⟩) (by decide +kernel)
def kq_473 : ek := (183, [.inr 86, .inl (0, 0)], [], [(120, 999), (124, 999)], [(none, [])], 0, 0)
/-- LoadsAheadModel loads -/
theorem qk_473 (l : Launch) : ek_ok l tQ iQ kq_473 := ek_good_ok (sp := sQ) (K := []) (SP := []) (HS := [((9, [some (.inr 86, none), some (.inl (0, 0), none), some (.inl (0, 4), none), none, none, none], [], [], []), [(0, (0, 0, 0), 0), (1, (1, 2, 0), 4), (0, (0, 0, 0), 1)]), ((37, [some (.inr 86, none), some (.inl (0, 0), none), some (.inl (0, 3), none), some (.inl (0, 63), none), some (.inl ((-1), (-1)), none), some (.inl (0, 0), none)], [], [], []), [(0, (0, 0, 0), 0), (1, (1, 2, 0), 4), (0, (0, 0, 0), 0)])]) (N := 3) (fuel := 84) hIQ (fun _ h => absurd h List.not_mem_nil) (by decide +kernel)
def kq_474 : ek := (184, [.inr 86, .inl (0, 0), .inl (0, 63)], [], [], [(some (.inl (1, 1)), []), (some (.inl (0, 0)), [])], 0, 0)
/-- LoadsAheadModel covers -/
theorem qk_474 (l : Launch) : ek_ok l tQ iQ kq_474 := ek_good_ok (sp := sQ) (K := []) (SP := []) (HS := []) (N := 0) (fuel := 40) hIQ (fun _ h => absurd h List.not_mem_nil) (by decide +kernel)
def kq_475 : ek := (188, [.inr 86, .inl (0, 19), .inl (0, 0)], [], [], [(some (.inl (1, 1)), []), (some (.inl (0, 0)), [])], 1, 22)
/-- LoadsAheadModel tookOld -/
theorem qk_475 (l : Launch) : ek_ok l tQ iQ kq_475 := ek_good_ok (sp := sQ) (K := [kq_474]) (SP := []) (HS := [((2, [some (.inr 86, none), some (.inl (0, 19), none), some (.inl (0, 0), none), some (.inl (0, 4), none)], [], [], []), [(0, (0, 0, 0), 0), (1, (1, 3, 0), 4), (0, (0, 0, 0), 0)])]) (N := 3) (fuel := 70) hIQ (List.forall_mem_cons.mpr ⟨qk_474 l, fun _ h => absurd h List.not_mem_nil⟩) (by decide +kernel)
def kq_476 : ek := (189, [.inr 86, .inl (0, 19), .inl (0, 0)], [], [(84, 3), (87, 999)], [(none, [])], 1, 21)
/-- LoadsAheadModel melts -/
theorem qk_476 (l : Launch) : ek_ok l tQ iQ kq_476 := ek_good_ok (sp := sQ) (K := [kq_437]) (SP := []) (HS := []) (N := 0) (fuel := 90) hIQ (List.forall_mem_cons.mpr ⟨qk_437 l, fun _ h => absurd h List.not_mem_nil⟩) (by decide +kernel)
def kq_479 : ek := (188, [.inr 86, .inl (1, 1), .inl (0, 0)], [], [], [(some (.inl (1, 1)), []), (some (.inl (0, 0)), [])], 1, 22)
/-- LoadsAheadModel tookOld -/
theorem qk_479 (l : Launch) : ek_ok l tQ iQ kq_479 := ek_good_ok (sp := sQ) (K := [kq_474]) (SP := []) (HS := [((2, [some (.inr 86, none), some (.inl (1, 1), none), some (.inl (0, 0), none), some (.inl (0, 4), none)], [], [], []), [(0, (0, 0, 0), 0), (1, (1, 3, 0), 4), (0, (0, 0, 0), 0)])]) (N := 3) (fuel := 70) hIQ (List.forall_mem_cons.mpr ⟨qk_474 l, fun _ h => absurd h List.not_mem_nil⟩) (by decide +kernel)
def kq_480 : ek := (188, [.inr 86, .inl (0, 3), .inl (0, 0)], [], [], [(some (.inl (1, 1)), []), (some (.inl (0, 0)), [])], 1, 22)
/-- LoadsAheadModel tookOld -/
theorem qk_480 (l : Launch) : ek_ok l tQ iQ kq_480 := ek_good_ok (sp := sQ) (K := [kq_474]) (SP := []) (HS := [((2, [some (.inr 86, none), some (.inl (0, 3), none), some (.inl (0, 0), none), some (.inl (0, 4), none)], [], [], []), [(0, (0, 0, 0), 0), (1, (1, 3, 0), 4), (0, (0, 0, 0), 0)])]) (N := 3) (fuel := 70) hIQ (List.forall_mem_cons.mpr ⟨qk_474 l, fun _ h => absurd h List.not_mem_nil⟩) (by decide +kernel)
def kq_481 : ek := (188, [.inr 86, .inl (0, 7), .inl (0, 0)], [], [], [(some (.inl (1, 1)), []), (some (.inl (0, 0)), [])], 1, 22)
/-- LoadsAheadModel tookOld -/
theorem qk_481 (l : Launch) : ek_ok l tQ iQ kq_481 := ek_good_ok (sp := sQ) (K := [kq_474]) (SP := []) (HS := [((2, [some (.inr 86, none), some (.inl (0, 7), none), some (.inl (0, 0), none), some (.inl (0, 4), none)], [], [], []), [(0, (0, 0, 0), 0), (1, (1, 3, 0), 4), (0, (0, 0, 0), 0)])]) (N := 3) (fuel := 70) hIQ (List.forall_mem_cons.mpr ⟨qk_474 l, fun _ h => absurd h List.not_mem_nil⟩) (by decide +kernel)
def kq_482 : ek := (188, [.inr 86, .inl (0, 15), .inl (0, 0)], [], [], [(some (.inl (1, 1)), []), (some (.inl (0, 0)), [])], 1, 22)
/-- LoadsAheadModel tookOld -/
theorem qk_482 (l : Launch) : ek_ok l tQ iQ kq_482 := ek_good_ok (sp := sQ) (K := [kq_474]) (SP := []) (HS := [((2, [some (.inr 86, none), some (.inl (0, 15), none), some (.inl (0, 0), none), some (.inl (0, 4), none)], [], [], []), [(0, (0, 0, 0), 0), (1, (1, 3, 0), 4), (0, (0, 0, 0), 0)])]) (N := 3) (fuel := 70) hIQ (List.forall_mem_cons.mpr ⟨qk_474 l, fun _ h => absurd h List.not_mem_nil⟩) (by decide +kernel)
def kq_483 : ek := (174, [.inr 86, .inl (0, 0), .inl (0, 7)], [], [], [(some (.inl (1, 1)), []), (some (.inl (0, 0)), [])], 0, 0)
/-- LoadsAheadModel gives -/
theorem qk_483 (l : Launch) : ek_ok l tQ iQ kq_483 := ek_good_ok (sp := sQ) (K := []) (SP := []) (HS := []) (N := 0) (fuel := 38) hIQ (fun _ h => absurd h List.not_mem_nil) (by decide +kernel)
def kq_484 : ek := (173, [.inr 86, .inl (0, 1), .inl (0, 7)], [], [], [(some (.inl (0, 0)), []), (some (.inl ((-1), (-1))), [])], 1, 22)
/-- LoadsAheadModel giverOf -/
theorem qk_484 (l : Launch) : ek_ok l tQ iQ kq_484 := ek_good_ok (sp := sQ) (K := [kq_483]) (SP := []) (HS := [((4, [some (.inr 86, none), some (.inl (0, 1), none), some (.inl (0, 7), none), some (.inl ((-1), 0), none)], [], [], []), [(0, (0, 0, 0), 0), (2, (1, 3, 0), (-1)), (0, (0, 0, 0), 0)])]) (N := 3) (fuel := 28) hIQ (List.forall_mem_cons.mpr ⟨qk_483 l, fun _ h => absurd h List.not_mem_nil⟩) (by decide +kernel)
def kq_485 : ek := (180, [.inr 86, .inl (0, 1), .inl (0, 7)], [], [], [(some (.inl ((-2147483648), 2147483647)), [])], 2, 45)
/-- LoadsAheadModel readBy -/
theorem qk_485 (l : Launch) : ek_ok l tQ iQ kq_485 := ek_good_ok (sp := sQ) (K := [kq_484]) (SP := []) (HS := []) (N := 0) (fuel := 36) hIQ (List.forall_mem_cons.mpr ⟨qk_484 l, fun _ h => absurd h List.not_mem_nil⟩) (by decide +kernel)
def kq_486 : ek := (182, [.inr 86, .inl (0, 1)], [], [], [(some (.inl (0, 63)), [])], 3, 68)
/-- LoadsAheadModel placeBy -/
theorem qk_486 (l : Launch) : ek_ok l tQ iQ kq_486 := ek_good_ok (sp := sQ) (K := [kq_485]) (SP := []) (HS := []) (N := 0) (fuel := 54) hIQ (List.forall_mem_cons.mpr ⟨qk_485 l, fun _ h => absurd h List.not_mem_nil⟩) (by decide +kernel)
def kq_487 : ek := (183, [.inr 86, .inl (0, 1)], [], [(120, 999), (124, 999)], [(none, [])], 1, 22)
/-- LoadsAheadModel loads -/
theorem qk_487 (l : Launch) : ek_ok l tQ iQ kq_487 := ek_good_ok (sp := sQ) (K := [kq_474, kq_433]) (SP := []) (HS := [((9, [some (.inr 86, none), some (.inl (0, 1), none), some (.inl (0, 4), none), none, none, none], [], [], []), [(0, (0, 0, 0), 0), (1, (1, 2, 0), 4), (0, (0, 0, 0), 1), (0, (0, 0, 0), 0), (0, (0, 0, 0), 0)]), ((37, [some (.inr 86, none), some (.inl (0, 1), none), some (.inl (0, 3), none), some (.inl (0, 63), none), some (.inl ((-1), 0), none), some (.inl (0, 1), none)], [], [], []), [(0, (0, 0, 0), 0), (1, (1, 2, 0), 4), (0, (0, 0, 0), 0), (1, (1, 5, 0), 1), (0, (0, 0, 0), 0)])]) (N := 5) (fuel := 100) hIQ (List.forall_mem_cons.mpr ⟨qk_474 l, List.forall_mem_cons.mpr ⟨qk_433 l, fun _ h => absurd h List.not_mem_nil⟩⟩) (by decide +kernel)
def kq_488 : ek := (184, [.inr 86, .inl (0, 1), .inl (0, 63)], [], [], [(some (.inl (1, 1)), []), (some (.inl (0, 0)), [])], 0, 0)
/-- LoadsAheadModel covers -/
theorem qk_488 (l : Launch) : ek_ok l tQ iQ kq_488 := ek_good_ok (sp := sQ) (K := []) (SP := []) (HS := []) (N := 0) (fuel := 40) hIQ (fun _ h => absurd h List.not_mem_nil) (by decide +kernel)
def kq_489 : ek := (188, [.inr 86, .inl (0, 19), .inl (0, 1)], [], [], [(some (.inl (1, 1)), []), (some (.inl (0, 0)), [])], 1, 22)
/-- LoadsAheadModel tookOld -/
theorem qk_489 (l : Launch) : ek_ok l tQ iQ kq_489 := ek_good_ok (sp := sQ) (K := [kq_488]) (SP := []) (HS := [((2, [some (.inr 86, none), some (.inl (0, 19), none), some (.inl (0, 1), none), some (.inl (0, 4), none)], [], [], []), [(0, (0, 0, 0), 0), (1, (1, 3, 0), 4), (0, (0, 0, 0), 0)])]) (N := 3) (fuel := 70) hIQ (List.forall_mem_cons.mpr ⟨qk_488 l, fun _ h => absurd h List.not_mem_nil⟩) (by decide +kernel)
def kq_490 : ek := (189, [.inr 86, .inl (0, 19), .inl (0, 1)], [], [(84, 3), (87, 999)], [(none, [])], 1, 21)
/-- LoadsAheadModel melts -/
theorem qk_490 (l : Launch) : ek_ok l tQ iQ kq_490 := ek_good_ok (sp := sQ) (K := [kq_437]) (SP := []) (HS := []) (N := 0) (fuel := 90) hIQ (List.forall_mem_cons.mpr ⟨qk_437 l, fun _ h => absurd h List.not_mem_nil⟩) (by decide +kernel)
def kq_493 : ek := (188, [.inr 86, .inl (0, 3), .inl (0, 1)], [], [], [(some (.inl (1, 1)), []), (some (.inl (0, 0)), [])], 1, 22)
/-- LoadsAheadModel tookOld -/
theorem qk_493 (l : Launch) : ek_ok l tQ iQ kq_493 := ek_good_ok (sp := sQ) (K := [kq_488]) (SP := []) (HS := [((2, [some (.inr 86, none), some (.inl (0, 3), none), some (.inl (0, 1), none), some (.inl (0, 4), none)], [], [], []), [(0, (0, 0, 0), 0), (1, (1, 3, 0), 4), (0, (0, 0, 0), 0)])]) (N := 3) (fuel := 70) hIQ (List.forall_mem_cons.mpr ⟨qk_488 l, fun _ h => absurd h List.not_mem_nil⟩) (by decide +kernel)
def kq_494 : ek := (188, [.inr 86, .inl (0, 7), .inl (0, 1)], [], [], [(some (.inl (1, 1)), []), (some (.inl (0, 0)), [])], 1, 22)
/-- LoadsAheadModel tookOld -/
theorem qk_494 (l : Launch) : ek_ok l tQ iQ kq_494 := ek_good_ok (sp := sQ) (K := [kq_488]) (SP := []) (HS := [((2, [some (.inr 86, none), some (.inl (0, 7), none), some (.inl (0, 1), none), some (.inl (0, 4), none)], [], [], []), [(0, (0, 0, 0), 0), (1, (1, 3, 0), 4), (0, (0, 0, 0), 0)])]) (N := 3) (fuel := 70) hIQ (List.forall_mem_cons.mpr ⟨qk_488 l, fun _ h => absurd h List.not_mem_nil⟩) (by decide +kernel)
def kq_495 : ek := (188, [.inr 86, .inl (0, 15), .inl (0, 1)], [], [], [(some (.inl (1, 1)), []), (some (.inl (0, 0)), [])], 1, 22)
/-- LoadsAheadModel tookOld -/
theorem qk_495 (l : Launch) : ek_ok l tQ iQ kq_495 := ek_good_ok (sp := sQ) (K := [kq_488]) (SP := []) (HS := [((2, [some (.inr 86, none), some (.inl (0, 15), none), some (.inl (0, 1), none), some (.inl (0, 4), none)], [], [], []), [(0, (0, 0, 0), 0), (1, (1, 3, 0), 4), (0, (0, 0, 0), 0)])]) (N := 3) (fuel := 70) hIQ (List.forall_mem_cons.mpr ⟨qk_488 l, fun _ h => absurd h List.not_mem_nil⟩) (by decide +kernel)
def kq_496 : ek := (174, [.inr 86, .inl (0, 3), .inl (0, 7)], [], [], [(some (.inl (1, 1)), []), (some (.inl (0, 0)), [])], 0, 0)
/-- LoadsAheadModel gives -/
theorem qk_496 (l : Launch) : ek_ok l tQ iQ kq_496 := ek_good_ok (sp := sQ) (K := []) (SP := []) (HS := []) (N := 0) (fuel := 38) hIQ (fun _ h => absurd h List.not_mem_nil) (by decide +kernel)
def kq_497 : ek := (173, [.inr 86, .inl (0, 3), .inl (0, 7)], [], [], [(some (.inl (0, 2)), []), (some (.inl ((-1), (-1))), [])], 1, 22)
/-- LoadsAheadModel giverOf -/
theorem qk_497 (l : Launch) : ek_ok l tQ iQ kq_497 := ek_good_ok (sp := sQ) (K := [kq_496]) (SP := []) (HS := [((4, [some (.inr 86, none), some (.inl (0, 3), none), some (.inl (0, 7), none), some (.inl ((-1), 2), none)], [], [], []), [(0, (0, 0, 0), 0), (2, (1, 3, 0), (-1)), (0, (0, 0, 0), 0)])]) (N := 3) (fuel := 28) hIQ (List.forall_mem_cons.mpr ⟨qk_496 l, fun _ h => absurd h List.not_mem_nil⟩) (by decide +kernel)
def kq_498 : ek := (180, [.inr 86, .inl (0, 3), .inl (0, 7)], [], [], [(some (.inl ((-2147483648), 2147483647)), [])], 2, 45)
/-- LoadsAheadModel readBy -/
theorem qk_498 (l : Launch) : ek_ok l tQ iQ kq_498 := ek_good_ok (sp := sQ) (K := [kq_497]) (SP := []) (HS := []) (N := 0) (fuel := 36) hIQ (List.forall_mem_cons.mpr ⟨qk_497 l, fun _ h => absurd h List.not_mem_nil⟩) (by decide +kernel)
def kq_499 : ek := (182, [.inr 86, .inl (0, 3)], [], [], [(some (.inl (0, 63)), [])], 3, 68)
/-- LoadsAheadModel placeBy -/
theorem qk_499 (l : Launch) : ek_ok l tQ iQ kq_499 := ek_good_ok (sp := sQ) (K := [kq_498]) (SP := []) (HS := []) (N := 0) (fuel := 54) hIQ (List.forall_mem_cons.mpr ⟨qk_498 l, fun _ h => absurd h List.not_mem_nil⟩) (by decide +kernel)
def kq_500 : ek := (184, [.inr 86, .inl (0, 3), .inl (0, 63)], [], [], [(some (.inl (1, 1)), []), (some (.inl (0, 0)), [])], 0, 0)
/-- LoadsAheadModel covers -/
theorem qk_500 (l : Launch) : ek_ok l tQ iQ kq_500 := ek_good_ok (sp := sQ) (K := []) (SP := []) (HS := []) (N := 0) (fuel := 40) hIQ (fun _ h => absurd h List.not_mem_nil) (by decide +kernel)
def kq_501 : ek := (183, [.inr 86, .inl (0, 3)], [], [(120, 999), (124, 999)], [(none, [])], 1, 22)
/-- LoadsAheadModel loads -/
theorem qk_501 (l : Launch) : ek_ok l tQ iQ kq_501 := ek_good_ok (sp := sQ) (K := [kq_500, kq_433]) (SP := []) (HS := [((9, [some (.inr 86, none), some (.inl (0, 3), none), some (.inl (0, 4), none), none, none, none], [], [], []), [(0, (0, 0, 0), 0), (1, (1, 2, 0), 4), (0, (0, 0, 0), 1), (0, (0, 0, 0), 0), (0, (0, 0, 0), 0)]), ((37, [some (.inr 86, none), some (.inl (0, 3), none), some (.inl (0, 3), none), some (.inl (0, 63), none), some (.inl ((-1), 2), none), some (.inl (0, 3), none)], [], [], []), [(0, (0, 0, 0), 0), (1, (1, 2, 0), 4), (0, (0, 0, 0), 0), (1, (1, 5, 0), 3), (0, (0, 0, 0), 0)])]) (N := 5) (fuel := 100) hIQ (List.forall_mem_cons.mpr ⟨qk_500 l, List.forall_mem_cons.mpr ⟨qk_433 l, fun _ h => absurd h List.not_mem_nil⟩⟩) (by decide +kernel)
def kq_502 : ek := (188, [.inr 86, .inl (0, 19), .inl (0, 3)], [], [], [(some (.inl (1, 1)), []), (some (.inl (0, 0)), [])], 1, 22)
/-- LoadsAheadModel tookOld -/
theorem qk_502 (l : Launch) : ek_ok l tQ iQ kq_502 := ek_good_ok (sp := sQ) (K := [kq_500]) (SP := []) (HS := [((2, [some (.inr 86, none), some (.inl (0, 19), none), some (.inl (0, 3), none), some (.inl (0, 4), none)], [], [], []), [(0, (0, 0, 0), 0), (1, (1, 3, 0), 4), (0, (0, 0, 0), 0)])]) (N := 3) (fuel := 70) hIQ (List.forall_mem_cons.mpr ⟨qk_500 l, fun _ h => absurd h List.not_mem_nil⟩) (by decide +kernel)
def kq_503 : ek := (189, [.inr 86, .inl (0, 19), .inl (0, 3)], [], [(84, 3), (87, 999)], [(none, [])], 1, 21)
/-- LoadsAheadModel melts -/
theorem qk_503 (l : Launch) : ek_ok l tQ iQ kq_503 := ek_good_ok (sp := sQ) (K := [kq_437]) (SP := []) (HS := []) (N := 0) (fuel := 90) hIQ (List.forall_mem_cons.mpr ⟨qk_437 l, fun _ h => absurd h List.not_mem_nil⟩) (by decide +kernel)
def kq_506 : ek := (188, [.inr 86, .inl (0, 7), .inl (0, 3)], [], [], [(some (.inl (1, 1)), []), (some (.inl (0, 0)), [])], 1, 22)
/-- LoadsAheadModel tookOld -/
theorem qk_506 (l : Launch) : ek_ok l tQ iQ kq_506 := ek_good_ok (sp := sQ) (K := [kq_500]) (SP := []) (HS := [((2, [some (.inr 86, none), some (.inl (0, 7), none), some (.inl (0, 3), none), some (.inl (0, 4), none)], [], [], []), [(0, (0, 0, 0), 0), (1, (1, 3, 0), 4), (0, (0, 0, 0), 0)])]) (N := 3) (fuel := 70) hIQ (List.forall_mem_cons.mpr ⟨qk_500 l, fun _ h => absurd h List.not_mem_nil⟩) (by decide +kernel)
def kq_507 : ek := (188, [.inr 86, .inl (0, 15), .inl (0, 3)], [], [], [(some (.inl (1, 1)), []), (some (.inl (0, 0)), [])], 1, 22)
/-- LoadsAheadModel tookOld -/
theorem qk_507 (l : Launch) : ek_ok l tQ iQ kq_507 := ek_good_ok (sp := sQ) (K := [kq_500]) (SP := []) (HS := [((2, [some (.inr 86, none), some (.inl (0, 15), none), some (.inl (0, 3), none), some (.inl (0, 4), none)], [], [], []), [(0, (0, 0, 0), 0), (1, (1, 3, 0), 4), (0, (0, 0, 0), 0)])]) (N := 3) (fuel := 70) hIQ (List.forall_mem_cons.mpr ⟨qk_500 l, fun _ h => absurd h List.not_mem_nil⟩) (by decide +kernel)
def kq_508 : ek := (174, [.inr 86, .inl (0, 7), .inl (0, 7)], [], [], [(some (.inl (1, 1)), []), (some (.inl (0, 0)), [])], 0, 0)
/-- LoadsAheadModel gives -/
theorem qk_508 (l : Launch) : ek_ok l tQ iQ kq_508 := ek_good_ok (sp := sQ) (K := []) (SP := []) (HS := []) (N := 0) (fuel := 38) hIQ (fun _ h => absurd h List.not_mem_nil) (by decide +kernel)
def kq_509 : ek := (173, [.inr 86, .inl (0, 7), .inl (0, 7)], [], [], [(some (.inl (0, 6)), []), (some (.inl ((-1), (-1))), [])], 1, 22)
/-- LoadsAheadModel giverOf -/
theorem qk_509 (l : Launch) : ek_ok l tQ iQ kq_509 := ek_good_ok (sp := sQ) (K := [kq_508]) (SP := []) (HS := [((4, [some (.inr 86, none), some (.inl (0, 7), none), some (.inl (0, 7), none), some (.inl ((-1), 6), none)], [], [], []), [(0, (0, 0, 0), 0), (2, (1, 3, 0), (-1)), (0, (0, 0, 0), 0)])]) (N := 3) (fuel := 28) hIQ (List.forall_mem_cons.mpr ⟨qk_508 l, fun _ h => absurd h List.not_mem_nil⟩) (by decide +kernel)
def kq_510 : ek := (180, [.inr 86, .inl (0, 7), .inl (0, 7)], [], [], [(some (.inl ((-2147483648), 2147483647)), [])], 2, 45)
/-- LoadsAheadModel readBy -/
theorem qk_510 (l : Launch) : ek_ok l tQ iQ kq_510 := ek_good_ok (sp := sQ) (K := [kq_509]) (SP := []) (HS := []) (N := 0) (fuel := 36) hIQ (List.forall_mem_cons.mpr ⟨qk_509 l, fun _ h => absurd h List.not_mem_nil⟩) (by decide +kernel)
def kq_511 : ek := (182, [.inr 86, .inl (0, 7)], [], [], [(some (.inl (0, 63)), [])], 3, 68)
/-- LoadsAheadModel placeBy -/
theorem qk_511 (l : Launch) : ek_ok l tQ iQ kq_511 := ek_good_ok (sp := sQ) (K := [kq_510]) (SP := []) (HS := []) (N := 0) (fuel := 54) hIQ (List.forall_mem_cons.mpr ⟨qk_510 l, fun _ h => absurd h List.not_mem_nil⟩) (by decide +kernel)
def kq_512 : ek := (184, [.inr 86, .inl (0, 7), .inl (0, 63)], [], [], [(some (.inl (1, 1)), []), (some (.inl (0, 0)), [])], 0, 0)
/-- LoadsAheadModel covers -/
theorem qk_512 (l : Launch) : ek_ok l tQ iQ kq_512 := ek_good_ok (sp := sQ) (K := []) (SP := []) (HS := []) (N := 0) (fuel := 40) hIQ (fun _ h => absurd h List.not_mem_nil) (by decide +kernel)
def kq_513 : ek := (183, [.inr 86, .inl (0, 7)], [], [(120, 999), (124, 999)], [(none, [])], 1, 22)
/-- LoadsAheadModel loads -/
theorem qk_513 (l : Launch) : ek_ok l tQ iQ kq_513 := ek_good_ok (sp := sQ) (K := [kq_512, kq_433]) (SP := []) (HS := [((9, [some (.inr 86, none), some (.inl (0, 7), none), some (.inl (0, 4), none), none, none, none], [], [], []), [(0, (0, 0, 0), 0), (1, (1, 2, 0), 4), (0, (0, 0, 0), 1), (0, (0, 0, 0), 0), (0, (0, 0, 0), 0)]), ((37, [some (.inr 86, none), some (.inl (0, 7), none), some (.inl (0, 3), none), some (.inl (0, 63), none), some (.inl ((-1), 6), none), some (.inl (0, 7), none)], [], [], []), [(0, (0, 0, 0), 0), (1, (1, 2, 0), 4), (0, (0, 0, 0), 0), (1, (1, 5, 0), 7), (0, (0, 0, 0), 0)])]) (N := 5) (fuel := 100) hIQ (List.forall_mem_cons.mpr ⟨qk_512 l, List.forall_mem_cons.mpr ⟨qk_433 l, fun _ h => absurd h List.not_mem_nil⟩⟩) (by decide +kernel)
def kq_514 : ek := (188, [.inr 86, .inl (0, 19), .inl (0, 7)], [], [], [(some (.inl (1, 1)), []), (some (.inl (0, 0)), [])], 1, 22)
/-- LoadsAheadModel tookOld -/
theorem qk_514 (l : Launch) : ek_ok l tQ iQ kq_514 := ek_good_ok (sp := sQ) (K := [kq_512]) (SP := []) (HS := [((2, [some (.inr 86, none), some (.inl (0, 19), none), some (.inl (0, 7), none), some (.inl (0, 4), none)], [], [], []), [(0, (0, 0, 0), 0), (1, (1, 3, 0), 4), (0, (0, 0, 0), 0)])]) (N := 3) (fuel := 70) hIQ (List.forall_mem_cons.mpr ⟨qk_512 l, fun _ h => absurd h List.not_mem_nil⟩) (by decide +kernel)
def kq_515 : ek := (189, [.inr 86, .inl (0, 19), .inl (0, 7)], [], [(84, 3), (87, 999)], [(none, [])], 1, 21)
/-- LoadsAheadModel melts -/
theorem qk_515 (l : Launch) : ek_ok l tQ iQ kq_515 := ek_good_ok (sp := sQ) (K := [kq_437]) (SP := []) (HS := []) (N := 0) (fuel := 90) hIQ (List.forall_mem_cons.mpr ⟨qk_437 l, fun _ h => absurd h List.not_mem_nil⟩) (by decide +kernel)
