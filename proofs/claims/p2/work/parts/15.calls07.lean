def kq_472 : ek := (188, [.inr 86, .inl (0, 15), .inl (0, 0)], [], [], [(some (.inl (1, 1)), []), (some (.inl (0, 0)), [])], 1, 22)
/-- LoadsAheadModel tookOld -/
theorem qk_472 (l : Launch) : ek_ok l tQ iQ kq_472 := ek_good_ok (sp := sQ) (K := [kq_464]) (SP := []) (HS := [((2, [some (.inr 86, none), some (.inl (0, 15), none), some (.inl (0, 0), none), some (.inl (0, 4), none)], [], [], []), [(0, (0, 0, 0), 0), (1, (1, 3, 0), 4), (0, (0, 0, 0), 0)])]) (N := 3) (fuel := 70) hIQ (List.forall_mem_cons.mpr ⟨qk_464 l, fun _ h => absurd h List.not_mem_nil⟩) (by decide +kernel)
def kq_473 : ek := (174, [.inr 86, .inl (0, 0), .inl (0, 7)], [], [], [(some (.inl (1, 1)), []), (some (.inl (0, 0)), [])], 0, 0)
/-- LoadsAheadModel gives -/
theorem qk_473 (l : Launch) : ek_ok l tQ iQ kq_473 := ek_good_ok (sp := sQ) (K := []) (SP := []) (HS := []) (N := 0) (fuel := 38) hIQ (fun _ h => absurd h List.not_mem_nil) (by decide +kernel)
def kq_474 : ek := (173, [.inr 86, .inl (0, 1), .inl (0, 7)], [], [], [(some (.inl (0, 0)), []), (some (.inl ((-1), (-1))), [])], 1, 22)
/-- LoadsAheadModel giverOf -/
theorem qk_474 (l : Launch) : ek_ok l tQ iQ kq_474 := ek_good_ok (sp := sQ) (K := [kq_473]) (SP := []) (HS := [((4, [some (.inr 86, none), some (.inl (0, 1), none), some (.inl (0, 7), none), some (.inl ((-1), 0), none)], [], [], []), [(0, (0, 0, 0), 0), (2, (1, 3, 0), (-1)), (0, (0, 0, 0), 0)])]) (N := 3) (fuel := 28) hIQ (List.forall_mem_cons.mpr ⟨qk_473 l, fun _ h => absurd h List.not_mem_nil⟩) (by decide +kernel)
def kq_475 : ek := (180, [.inr 86, .inl (0, 1), .inl (0, 7)], [], [], [(some (.inl ((-2147483648), 2147483647)), [])], 2, 45)
/-- LoadsAheadModel readBy -/
theorem qk_475 (l : Launch) : ek_ok l tQ iQ kq_475 := ek_good_ok (sp := sQ) (K := [kq_474]) (SP := []) (HS := []) (N := 0) (fuel := 36) hIQ (List.forall_mem_cons.mpr ⟨qk_474 l, fun _ h => absurd h List.not_mem_nil⟩) (by decide +kernel)
def kq_476 : ek := (182, [.inr 86, .inl (0, 1)], [], [], [(some (.inl (0, 63)), [])], 3, 68)
/-- LoadsAheadModel placeBy -/
theorem qk_476 (l : Launch) : ek_ok l tQ iQ kq_476 := ek_good_ok (sp := sQ) (K := [kq_475]) (SP := []) (HS := []) (N := 0) (fuel := 54) hIQ (List.forall_mem_cons.mpr ⟨qk_475 l, fun _ h => absurd h List.not_mem_nil⟩) (by decide +kernel)
def kq_477 : ek := (183, [.inr 86, .inl (0, 1)], [], [(120, 999), (124, 999)], [(none, [])], 1, 22)
/-- LoadsAheadModel loads -/
theorem qk_477 (l : Launch) : ek_ok l tQ iQ kq_477 := ek_good_ok (sp := sQ) (K := [kq_464, kq_423]) (SP := []) (HS := [((9, [some (.inr 86, none), some (.inl (0, 1), none), some (.inl (0, 4), none), none, none, none], [], [], []), [(0, (0, 0, 0), 0), (1, (1, 2, 0), 4), (0, (0, 0, 0), 1), (0, (0, 0, 0), 0), (0, (0, 0, 0), 0)]), ((37, [some (.inr 86, none), some (.inl (0, 1), none), some (.inl (0, 3), none), some (.inl (0, 63), none), some (.inl ((-1), 0), none), some (.inl (0, 1), none)], [], [], []), [(0, (0, 0, 0), 0), (1, (1, 2, 0), 4), (0, (0, 0, 0), 0), (1, (1, 5, 0), 1), (0, (0, 0, 0), 0)])]) (N := 5) (fuel := 100) hIQ (List.forall_mem_cons.mpr ⟨qk_464 l, List.forall_mem_cons.mpr ⟨qk_423 l, fun _ h => absurd h List.not_mem_nil⟩⟩) (by decide +kernel)
def kq_478 : ek := (184, [.inr 86, .inl (0, 1), .inl (0, 63)], [], [], [(some (.inl (1, 1)), []), (some (.inl (0, 0)), [])], 0, 0)
/-- LoadsAheadModel covers -/
theorem qk_478 (l : Launch) : ek_ok l tQ iQ kq_478 := ek_good_ok (sp := sQ) (K := []) (SP := []) (HS := []) (N := 0) (fuel := 40) hIQ (fun _ h => absurd h List.not_mem_nil) (by decide +kernel)
def kq_479 : ek := (188, [.inr 86, .inl (0, 19), .inl (0, 1)], [], [], [(some (.inl (1, 1)), []), (some (.inl (0, 0)), [])], 1, 22)
/-- LoadsAheadModel tookOld -/
theorem qk_479 (l : Launch) : ek_ok l tQ iQ kq_479 := ek_good_ok (sp := sQ) (K := [kq_478]) (SP := []) (HS := [((2, [some (.inr 86, none), some (.inl (0, 19), none), some (.inl (0, 1), none), some (.inl (0, 4), none)], [], [], []), [(0, (0, 0, 0), 0), (1, (1, 3, 0), 4), (0, (0, 0, 0), 0)])]) (N := 3) (fuel := 70) hIQ (List.forall_mem_cons.mpr ⟨qk_478 l, fun _ h => absurd h List.not_mem_nil⟩) (by decide +kernel)
def kq_480 : ek := (189, [.inr 86, .inl (0, 19), .inl (0, 1)], [], [(84, 3), (87, 999)], [(none, [])], 1, 21)
/-- LoadsAheadModel melts -/
theorem qk_480 (l : Launch) : ek_ok l tQ iQ kq_480 := ek_good_ok (sp := sQ) (K := [kq_427]) (SP := []) (HS := []) (N := 0) (fuel := 90) hIQ (List.forall_mem_cons.mpr ⟨qk_427 l, fun _ h => absurd h List.not_mem_nil⟩) (by decide +kernel)
def kq_483 : ek := (188, [.inr 86, .inl (0, 3), .inl (0, 1)], [], [], [(some (.inl (1, 1)), []), (some (.inl (0, 0)), [])], 1, 22)
/-- LoadsAheadModel tookOld -/
theorem qk_483 (l : Launch) : ek_ok l tQ iQ kq_483 := ek_good_ok (sp := sQ) (K := [kq_478]) (SP := []) (HS := [((2, [some (.inr 86, none), some (.inl (0, 3), none), some (.inl (0, 1), none), some (.inl (0, 4), none)], [], [], []), [(0, (0, 0, 0), 0), (1, (1, 3, 0), 4), (0, (0, 0, 0), 0)])]) (N := 3) (fuel := 70) hIQ (List.forall_mem_cons.mpr ⟨qk_478 l, fun _ h => absurd h List.not_mem_nil⟩) (by decide +kernel)
def kq_484 : ek := (188, [.inr 86, .inl (0, 7), .inl (0, 1)], [], [], [(some (.inl (1, 1)), []), (some (.inl (0, 0)), [])], 1, 22)
/-- LoadsAheadModel tookOld -/
theorem qk_484 (l : Launch) : ek_ok l tQ iQ kq_484 := ek_good_ok (sp := sQ) (K := [kq_478]) (SP := []) (HS := [((2, [some (.inr 86, none), some (.inl (0, 7), none), some (.inl (0, 1), none), some (.inl (0, 4), none)], [], [], []), [(0, (0, 0, 0), 0), (1, (1, 3, 0), 4), (0, (0, 0, 0), 0)])]) (N := 3) (fuel := 70) hIQ (List.forall_mem_cons.mpr ⟨qk_478 l, fun _ h => absurd h List.not_mem_nil⟩) (by decide +kernel)
def kq_485 : ek := (188, [.inr 86, .inl (0, 15), .inl (0, 1)], [], [], [(some (.inl (1, 1)), []), (some (.inl (0, 0)), [])], 1, 22)
/-- LoadsAheadModel tookOld -/
theorem qk_485 (l : Launch) : ek_ok l tQ iQ kq_485 := ek_good_ok (sp := sQ) (K := [kq_478]) (SP := []) (HS := [((2, [some (.inr 86, none), some (.inl (0, 15), none), some (.inl (0, 1), none), some (.inl (0, 4), none)], [], [], []), [(0, (0, 0, 0), 0), (1, (1, 3, 0), 4), (0, (0, 0, 0), 0)])]) (N := 3) (fuel := 70) hIQ (List.forall_mem_cons.mpr ⟨qk_478 l, fun _ h => absurd h List.not_mem_nil⟩) (by decide +kernel)
def kq_486 : ek := (174, [.inr 86, .inl (0, 3), .inl (0, 7)], [], [], [(some (.inl (1, 1)), []), (some (.inl (0, 0)), [])], 0, 0)
/-- LoadsAheadModel gives -/
theorem qk_486 (l : Launch) : ek_ok l tQ iQ kq_486 := ek_good_ok (sp := sQ) (K := []) (SP := []) (HS := []) (N := 0) (fuel := 38) hIQ (fun _ h => absurd h List.not_mem_nil) (by decide +kernel)
def kq_487 : ek := (173, [.inr 86, .inl (0, 3), .inl (0, 7)], [], [], [(some (.inl (0, 2)), []), (some (.inl ((-1), (-1))), [])], 1, 22)
/-- LoadsAheadModel giverOf -/
theorem qk_487 (l : Launch) : ek_ok l tQ iQ kq_487 := ek_good_ok (sp := sQ) (K := [kq_486]) (SP := []) (HS := [((4, [some (.inr 86, none), some (.inl (0, 3), none), some (.inl (0, 7), none), some (.inl ((-1), 2), none)], [], [], []), [(0, (0, 0, 0), 0), (2, (1, 3, 0), (-1)), (0, (0, 0, 0), 0)])]) (N := 3) (fuel := 28) hIQ (List.forall_mem_cons.mpr ⟨qk_486 l, fun _ h => absurd h List.not_mem_nil⟩) (by decide +kernel)
def kq_488 : ek := (180, [.inr 86, .inl (0, 3), .inl (0, 7)], [], [], [(some (.inl ((-2147483648), 2147483647)), [])], 2, 45)
/-- LoadsAheadModel readBy -/
theorem qk_488 (l : Launch) : ek_ok l tQ iQ kq_488 := ek_good_ok (sp := sQ) (K := [kq_487]) (SP := []) (HS := []) (N := 0) (fuel := 36) hIQ (List.forall_mem_cons.mpr ⟨qk_487 l, fun _ h => absurd h List.not_mem_nil⟩) (by decide +kernel)
def kq_489 : ek := (182, [.inr 86, .inl (0, 3)], [], [], [(some (.inl (0, 63)), [])], 3, 68)
/-- LoadsAheadModel placeBy -/
theorem qk_489 (l : Launch) : ek_ok l tQ iQ kq_489 := ek_good_ok (sp := sQ) (K := [kq_488]) (SP := []) (HS := []) (N := 0) (fuel := 54) hIQ (List.forall_mem_cons.mpr ⟨qk_488 l, fun _ h => absurd h List.not_mem_nil⟩) (by decide +kernel)
def kq_490 : ek := (184, [.inr 86, .inl (0, 3), .inl (0, 63)], [], [], [(some (.inl (1, 1)), []), (some (.inl (0, 0)), [])], 0, 0)
/-- LoadsAheadModel covers -/
theorem qk_490 (l : Launch) : ek_ok l tQ iQ kq_490 := ek_good_ok (sp := sQ) (K := []) (SP := []) (HS := []) (N := 0) (fuel := 40) hIQ (fun _ h => absurd h List.not_mem_nil) (by decide +kernel)
def kq_491 : ek := (183, [.inr 86, .inl (0, 3)], [], [(120, 999), (124, 999)], [(none, [])], 1, 22)
/-- LoadsAheadModel loads -/
theorem qk_491 (l : Launch) : ek_ok l tQ iQ kq_491 := ek_good_ok (sp := sQ) (K := [kq_490, kq_423]) (SP := []) (HS := [((9, [some (.inr 86, none), some (.inl (0, 3), none), some (.inl (0, 4), none), none, none, none], [], [], []), [(0, (0, 0, 0), 0), (1, (1, 2, 0), 4), (0, (0, 0, 0), 1), (0, (0, 0, 0), 0), (0, (0, 0, 0), 0)]), ((37, [some (.inr 86, none), some (.inl (0, 3), none), some (.inl (0, 3), none), some (.inl (0, 63), none), some (.inl ((-1), 2), none), some (.inl (0, 3), none)], [], [], []), [(0, (0, 0, 0), 0), (1, (1, 2, 0), 4), (0, (0, 0, 0), 0), (1, (1, 5, 0), 3), (0, (0, 0, 0), 0)])]) (N := 5) (fuel := 100) hIQ (List.forall_mem_cons.mpr ⟨qk_490 l, List.forall_mem_cons.mpr ⟨qk_423 l, fun _ h => absurd h List.not_mem_nil⟩⟩) (by decide +kernel)
def kq_492 : ek := (188, [.inr 86, .inl (0, 19), .inl (0, 3)], [], [], [(some (.inl (1, 1)), []), (some (.inl (0, 0)), [])], 1, 22)
/-- LoadsAheadModel tookOld -/
theorem qk_492 (l : Launch) : ek_ok l tQ iQ kq_492 := ek_good_ok (sp := sQ) (K := [kq_490]) (SP := []) (HS := [((2, [some (.inr 86, none), some (.inl (0, 19), none), some (.inl (0, 3), none), some (.inl (0, 4), none)], [], [], []), [(0, (0, 0, 0), 0), (1, (1, 3, 0), 4), (0, (0, 0, 0), 0)])]) (N := 3) (fuel := 70) hIQ (List.forall_mem_cons.mpr ⟨qk_490 l, fun _ h => absurd h List.not_mem_nil⟩) (by decide +kernel)
def kq_493 : ek := (189, [.inr 86, .inl (0, 19), .inl (0, 3)], [], [(84, 3), (87, 999)], [(none, [])], 1, 21)
/-- LoadsAheadModel melts -/
theorem qk_493 (l : Launch) : ek_ok l tQ iQ kq_493 := ek_good_ok (sp := sQ) (K := [kq_427]) (SP := []) (HS := []) (N := 0) (fuel := 90) hIQ (List.forall_mem_cons.mpr ⟨qk_427 l, fun _ h => absurd h List.not_mem_nil⟩) (by decide +kernel)
def kq_496 : ek := (188, [.inr 86, .inl (0, 7), .inl (0, 3)], [], [], [(some (.inl (1, 1)), []), (some (.inl (0, 0)), [])], 1, 22)
/-- LoadsAheadModel tookOld -/
theorem qk_496 (l : Launch) : ek_ok l tQ iQ kq_496 := ek_good_ok (sp := sQ) (K := [kq_490]) (SP := []) (HS := [((2, [some (.inr 86, none), some (.inl (0, 7), none), some (.inl (0, 3), none), some (.inl (0, 4), none)], [], [], []), [(0, (0, 0, 0), 0), (1, (1, 3, 0), 4), (0, (0, 0, 0), 0)])]) (N := 3) (fuel := 70) hIQ (List.forall_mem_cons.mpr ⟨qk_490 l, fun _ h => absurd h List.not_mem_nil⟩) (by decide +kernel)
def kq_497 : ek := (188, [.inr 86, .inl (0, 15), .inl (0, 3)], [], [], [(some (.inl (1, 1)), []), (some (.inl (0, 0)), [])], 1, 22)
/-- LoadsAheadModel tookOld -/
theorem qk_497 (l : Launch) : ek_ok l tQ iQ kq_497 := ek_good_ok (sp := sQ) (K := [kq_490]) (SP := []) (HS := [((2, [some (.inr 86, none), some (.inl (0, 15), none), some (.inl (0, 3), none), some (.inl (0, 4), none)], [], [], []), [(0, (0, 0, 0), 0), (1, (1, 3, 0), 4), (0, (0, 0, 0), 0)])]) (N := 3) (fuel := 70) hIQ (List.forall_mem_cons.mpr ⟨qk_490 l, fun _ h => absurd h List.not_mem_nil⟩) (by decide +kernel)
def kq_498 : ek := (174, [.inr 86, .inl (0, 7), .inl (0, 7)], [], [], [(some (.inl (1, 1)), []), (some (.inl (0, 0)), [])], 0, 0)
/-- LoadsAheadModel gives -/
theorem qk_498 (l : Launch) : ek_ok l tQ iQ kq_498 := ek_good_ok (sp := sQ) (K := []) (SP := []) (HS := []) (N := 0) (fuel := 38) hIQ (fun _ h => absurd h List.not_mem_nil) (by decide +kernel)
def kq_499 : ek := (173, [.inr 86, .inl (0, 7), .inl (0, 7)], [], [], [(some (.inl (0, 6)), []), (some (.inl ((-1), (-1))), [])], 1, 22)
/-- LoadsAheadModel giverOf -/
theorem qk_499 (l : Launch) : ek_ok l tQ iQ kq_499 := ek_good_ok (sp := sQ) (K := [kq_498]) (SP := []) (HS := [((4, [some (.inr 86, none), some (.inl (0, 7), none), some (.inl (0, 7), none), some (.inl ((-1), 6), none)], [], [], []), [(0, (0, 0, 0), 0), (2, (1, 3, 0), (-1)), (0, (0, 0, 0), 0)])]) (N := 3) (fuel := 28) hIQ (List.forall_mem_cons.mpr ⟨qk_498 l, fun _ h => absurd h List.not_mem_nil⟩) (by decide +kernel)
def kq_500 : ek := (180, [.inr 86, .inl (0, 7), .inl (0, 7)], [], [], [(some (.inl ((-2147483648), 2147483647)), [])], 2, 45)
/-- LoadsAheadModel readBy -/
theorem qk_500 (l : Launch) : ek_ok l tQ iQ kq_500 := ek_good_ok (sp := sQ) (K := [kq_499]) (SP := []) (HS := []) (N := 0) (fuel := 36) hIQ (List.forall_mem_cons.mpr ⟨qk_499 l, fun _ h => absurd h List.not_mem_nil⟩) (by decide +kernel)
def kq_501 : ek := (182, [.inr 86, .inl (0, 7)], [], [], [(some (.inl (0, 63)), [])], 3, 68)
/-- LoadsAheadModel placeBy -/
theorem qk_501 (l : Launch) : ek_ok l tQ iQ kq_501 := ek_good_ok (sp := sQ) (K := [kq_500]) (SP := []) (HS := []) (N := 0) (fuel := 54) hIQ (List.forall_mem_cons.mpr ⟨qk_500 l, fun _ h => absurd h List.not_mem_nil⟩) (by decide +kernel)
def kq_502 : ek := (184, [.inr 86, .inl (0, 7), .inl (0, 63)], [], [], [(some (.inl (1, 1)), []), (some (.inl (0, 0)), [])], 0, 0)
/-- LoadsAheadModel covers -/
theorem qk_502 (l : Launch) : ek_ok l tQ iQ kq_502 := ek_good_ok (sp := sQ) (K := []) (SP := []) (HS := []) (N := 0) (fuel := 40) hIQ (fun _ h => absurd h List.not_mem_nil) (by decide +kernel)
def kq_503 : ek := (183, [.inr 86, .inl (0, 7)], [], [(120, 999), (124, 999)], [(none, [])], 1, 22)
/-- LoadsAheadModel loads -/
theorem qk_503 (l : Launch) : ek_ok l tQ iQ kq_503 := ek_good_ok (sp := sQ) (K := [kq_502, kq_423]) (SP := []) (HS := [((9, [some (.inr 86, none), some (.inl (0, 7), none), some (.inl (0, 4), none), none, none, none], [], [], []), [(0, (0, 0, 0), 0), (1, (1, 2, 0), 4), (0, (0, 0, 0), 1), (0, (0, 0, 0), 0), (0, (0, 0, 0), 0)]), ((37, [some (.inr 86, none), some (.inl (0, 7), none), some (.inl (0, 3), none), some (.inl (0, 63), none), some (.inl ((-1), 6), none), some (.inl (0, 7), none)], [], [], []), [(0, (0, 0, 0), 0), (1, (1, 2, 0), 4), (0, (0, 0, 0), 0), (1, (1, 5, 0), 7), (0, (0, 0, 0), 0)])]) (N := 5) (fuel := 100) hIQ (List.forall_mem_cons.mpr ⟨qk_502 l, List.forall_mem_cons.mpr ⟨qk_423 l, fun _ h => absurd h List.not_mem_nil⟩⟩) (by decide +kernel)
def kq_504 : ek := (188, [.inr 86, .inl (0, 19), .inl (0, 7)], [], [], [(some (.inl (1, 1)), []), (some (.inl (0, 0)), [])], 1, 22)
/-- LoadsAheadModel tookOld -/
theorem qk_504 (l : Launch) : ek_ok l tQ iQ kq_504 := ek_good_ok (sp := sQ) (K := [kq_502]) (SP := []) (HS := [((2, [some (.inr 86, none), some (.inl (0, 19), none), some (.inl (0, 7), none), some (.inl (0, 4), none)], [], [], []), [(0, (0, 0, 0), 0), (1, (1, 3, 0), 4), (0, (0, 0, 0), 0)])]) (N := 3) (fuel := 70) hIQ (List.forall_mem_cons.mpr ⟨qk_502 l, fun _ h => absurd h List.not_mem_nil⟩) (by decide +kernel)
def kq_505 : ek := (189, [.inr 86, .inl (0, 19), .inl (0, 7)], [], [(84, 3), (87, 999)], [(none, [])], 1, 21)
/-- LoadsAheadModel melts -/
theorem qk_505 (l : Launch) : ek_ok l tQ iQ kq_505 := ek_good_ok (sp := sQ) (K := [kq_427]) (SP := []) (HS := []) (N := 0) (fuel := 90) hIQ (List.forall_mem_cons.mpr ⟨qk_427 l, fun _ h => absurd h List.not_mem_nil⟩) (by decide +kernel)
def kq_508 : ek := (188, [.inr 86, .inl (0, 15), .inl (0, 7)], [], [], [(some (.inl (1, 1)), []), (some (.inl (0, 0)), [])], 1, 22)
/-- LoadsAheadModel tookOld -/
theorem qk_508 (l : Launch) : ek_ok l tQ iQ kq_508 := ek_good_ok (sp := sQ) (K := [kq_502]) (SP := []) (HS := [((2, [some (.inr 86, none), some (.inl (0, 15), none), some (.inl (0, 7), none), some (.inl (0, 4), none)], [], [], []), [(0, (0, 0, 0), 0), (1, (1, 3, 0), 4), (0, (0, 0, 0), 0)])]) (N := 3) (fuel := 70) hIQ (List.forall_mem_cons.mpr ⟨qk_502 l, fun _ h => absurd h List.not_mem_nil⟩) (by decide +kernel)
def kq_509 : ek := (174, [.inr 86, .inl (0, 15), .inl (0, 7)], [], [], [(some (.inl (1, 1)), []), (some (.inl (0, 0)), [])], 0, 0)
/-- LoadsAheadModel gives -/
theorem qk_509 (l : Launch) : ek_ok l tQ iQ kq_509 := ek_good_ok (sp := sQ) (K := []) (SP := []) (HS := []) (N := 0) (fuel := 38) hIQ (fun _ h => absurd h List.not_mem_nil) (by decide +kernel)
def kq_510 : ek := (173, [.inr 86, .inl (0, 15), .inl (0, 7)], [], [], [(some (.inl (0, 14)), []), (some (.inl ((-1), (-1))), [])], 1, 22)
/-- LoadsAheadModel giverOf -/
theorem qk_510 (l : Launch) : ek_ok l tQ iQ kq_510 := ek_good_ok (sp := sQ) (K := [kq_509]) (SP := []) (HS := [((4, [some (.inr 86, none), some (.inl (0, 15), none), some (.inl (0, 7), none), some (.inl ((-1), 14), none)], [], [], []), [(0, (0, 0, 0), 0), (2, (1, 3, 0), (-1)), (0, (0, 0, 0), 0)])]) (N := 3) (fuel := 28) hIQ (List.forall_mem_cons.mpr ⟨qk_509 l, fun _ h => absurd h List.not_mem_nil⟩) (by decide +kernel)
def kq_511 : ek := (180, [.inr 86, .inl (0, 15), .inl (0, 7)], [], [], [(some (.inl ((-2147483648), 2147483647)), [])], 2, 45)
/-- LoadsAheadModel readBy -/
theorem qk_511 (l : Launch) : ek_ok l tQ iQ kq_511 := ek_good_ok (sp := sQ) (K := [kq_510]) (SP := []) (HS := []) (N := 0) (fuel := 36) hIQ (List.forall_mem_cons.mpr ⟨qk_510 l, fun _ h => absurd h List.not_mem_nil⟩) (by decide +kernel)
def kq_512 : ek := (182, [.inr 86, .inl (0, 15)], [], [], [(some (.inl (0, 63)), [])], 3, 68)
/-- LoadsAheadModel placeBy -/
theorem qk_512 (l : Launch) : ek_ok l tQ iQ kq_512 := ek_good_ok (sp := sQ) (K := [kq_511]) (SP := []) (HS := []) (N := 0) (fuel := 54) hIQ (List.forall_mem_cons.mpr ⟨qk_511 l, fun _ h => absurd h List.not_mem_nil⟩) (by decide +kernel)
def kq_513 : ek := (184, [.inr 86, .inl (0, 15), .inl (0, 63)], [], [], [(some (.inl (1, 1)), []), (some (.inl (0, 0)), [])], 0, 0)
/-- LoadsAheadModel covers -/
theorem qk_513 (l : Launch) : ek_ok l tQ iQ kq_513 := ek_good_ok (sp := sQ) (K := []) (SP := []) (HS := []) (N := 0) (fuel := 40) hIQ (fun _ h => absurd h List.not_mem_nil) (by decide +kernel)
def kq_514 : ek := (183, [.inr 86, .inl (0, 15)], [], [(120, 999), (124, 999)], [(none, [])], 1, 22)
/-- LoadsAheadModel loads -/
theorem qk_514 (l : Launch) : ek_ok l tQ iQ kq_514 := ek_good_ok (sp := sQ) (K := [kq_513, kq_423]) (SP := []) (HS := [((9, [some (.inr 86, none), some (.inl (0, 15), none), some (.inl (0, 4), none), none, none, none], [], [], []), [(0, (0, 0, 0), 0), (1, (1, 2, 0), 4), (0, (0, 0, 0), 1), (0, (0, 0, 0), 0), (0, (0, 0, 0), 0)]), ((37, [some (.inr 86, none), some (.inl (0, 15), none), some (.inl (0, 3), none), some (.inl (0, 63), none), some (.inl ((-1), 15), none), some (.inl (0, 15), none)], [], [], []), [(0, (0, 0, 0), 0), (1, (1, 2, 0), 4), (0, (0, 0, 0), 0), (1, (1, 5, 0), 15), (0, (0, 0, 0), 0)])]) (N := 5) (fuel := 100) hIQ (List.forall_mem_cons.mpr ⟨qk_513 l, List.forall_mem_cons.mpr ⟨qk_423 l, fun _ h => absurd h List.not_mem_nil⟩⟩) (by decide +kernel)
def kq_515 : ek := (188, [.inr 86, .inl (0, 19), .inl (0, 15)], [], [], [(some (.inl (1, 1)), []), (some (.inl (0, 0)), [])], 1, 22)
/-- LoadsAheadModel tookOld -/
theorem qk_515 (l : Launch) : ek_ok l tQ iQ kq_515 := ek_good_ok (sp := sQ) (K := [kq_513]) (SP := []) (HS := [((2, [some (.inr 86, none), some (.inl (0, 19), none), some (.inl (0, 15), none), some (.inl (0, 4), none)], [], [], []), [(0, (0, 0, 0), 0), (1, (1, 3, 0), 4), (0, (0, 0, 0), 0)])]) (N := 3) (fuel := 70) hIQ (List.forall_mem_cons.mpr ⟨qk_513 l, fun _ h => absurd h List.not_mem_nil⟩) (by decide +kernel)
def kq_516 : ek := (189, [.inr 86, .inl (0, 19), .inl (0, 15)], [], [(84, 3), (87, 999)], [(none, [])], 1, 21)
/-- LoadsAheadModel melts -/
theorem qk_516 (l : Launch) : ek_ok l tQ iQ kq_516 := ek_good_ok (sp := sQ) (K := [kq_427]) (SP := []) (HS := []) (N := 0) (fuel := 90) hIQ (List.forall_mem_cons.mpr ⟨qk_427 l, fun _ h => absurd h List.not_mem_nil⟩) (by decide +kernel)
def kq_519 : ek := (172, [.inr 86, .inl (0, 0), .inl (0, 7)], [], [], [(some (.inl (1, 1)), []), (some (.inl (0, 0)), [])], 0, 0)
/-- LoadsAheadModel doesRead -/
theorem qk_519 (l : Launch) : ek_ok l tQ iQ kq_519 := ek_good_ok (sp := sQ) (K := []) (SP := []) (HS := []) (N := 0) (fuel := 48) hIQ (fun _ h => absurd h List.not_mem_nil) (by decide +kernel)
def kq_520 : ek := (197, [.inr 86, .inl (0, 0)], [], [], [(some (.inl (1, 1)), [])], 1, 23)
/-- LoadsAheadModel areSourcesDone -/
theorem qk_520 (l : Launch) : ek_ok l tQ iQ kq_520 := ek_good_ok (sp := sQ) (K := [kq_519, kq_460]) (SP := []) (HS := [((2, [some (.inr 86, none), some (.inl (0, 0), none), some (.inl (0, 8), none), none], [], [], []), [(0, (0, 0, 0), 0), (1, (1, 2, 0), 8), (0, (0, 0, 0), 0)])]) (N := 3) (fuel := 48) hIQ (List.forall_mem_cons.mpr ⟨qk_519 l, List.forall_mem_cons.mpr ⟨qk_460 l, fun _ h => absurd h List.not_mem_nil⟩⟩) (by decide +kernel)
def kq_521 : ek := (172, [.inr 86, .inl (0, 0), .inl (0, 0)], [], [], [(some (.inl (1, 1)), []), (some (.inl (0, 0)), [])], 0, 0)
/-- LoadsAheadModel doesRead -/
theorem qk_521 (l : Launch) : ek_ok l tQ iQ kq_521 := ek_good_ok (sp := sQ) (K := []) (SP := []) (HS := []) (N := 0) (fuel := 48) hIQ (fun _ h => absurd h List.not_mem_nil) (by decide +kernel)
def kq_522 : ek := (172, [.inr 86, .inl (0, 0), .inl (0, 1)], [], [], [(some (.inl (1, 1)), []), (some (.inl (0, 0)), [])], 0, 0)
/-- LoadsAheadModel doesRead -/
theorem qk_522 (l : Launch) : ek_ok l tQ iQ kq_522 := ek_good_ok (sp := sQ) (K := []) (SP := []) (HS := []) (N := 0) (fuel := 48) hIQ (fun _ h => absurd h List.not_mem_nil) (by decide +kernel)
def kq_523 : ek := (172, [.inr 86, .inl (0, 0), .inl (0, 3)], [], [], [(some (.inl (1, 1)), []), (some (.inl (0, 0)), [])], 0, 0)
/-- LoadsAheadModel doesRead -/
theorem qk_523 (l : Launch) : ek_ok l tQ iQ kq_523 := ek_good_ok (sp := sQ) (K := []) (SP := []) (HS := []) (N := 0) (fuel := 48) hIQ (fun _ h => absurd h List.not_mem_nil) (by decide +kernel)
def kq_524 : ek := (173, [.inr 86, .inl (0, 0), .inl (0, 3)], [], [], [(some (.inl ((-1), (-1))), [])], 0, 0)
/-- LoadsAheadModel giverOf -/
theorem qk_524 (l : Launch) : ek_ok l tQ iQ kq_524 := ek_good_ok (sp := sQ) (K := []) (SP := []) (HS := [((4, [some (.inr 86, none), some (.inl (0, 0), none), some (.inl (0, 3), none), some (.inl ((-1), (-1)), none)], [], [], []), [(0, (0, 0, 0), 0)])]) (N := 1) (fuel := 18) hIQ (fun _ h => absurd h List.not_mem_nil) (by decide +kernel)
def kq_525 : ek := (173, [.inr 86, .inl (0, 0), .inl (0, 1)], [], [], [(some (.inl ((-1), (-1))), [])], 0, 0)
/-- LoadsAheadModel giverOf -/
theorem qk_525 (l : Launch) : ek_ok l tQ iQ kq_525 := ek_good_ok (sp := sQ) (K := []) (SP := []) (HS := [((4, [some (.inr 86, none), some (.inl (0, 0), none), some (.inl (0, 1), none), some (.inl ((-1), (-1)), none)], [], [], []), [(0, (0, 0, 0), 0)])]) (N := 1) (fuel := 18) hIQ (fun _ h => absurd h List.not_mem_nil) (by decide +kernel)
def kq_526 : ek := (173, [.inr 86, .inl (0, 0), .inl (0, 0)], [], [], [(some (.inl ((-1), (-1))), [])], 0, 0)
/-- LoadsAheadModel giverOf -/
theorem qk_526 (l : Launch) : ek_ok l tQ iQ kq_526 := ek_good_ok (sp := sQ) (K := []) (SP := []) (HS := [((4, [some (.inr 86, none), some (.inl (0, 0), none), some (.inl (0, 0), none), some (.inl ((-1), (-1)), none)], [], [], []), [(0, (0, 0, 0), 0)])]) (N := 1) (fuel := 18) hIQ (fun _ h => absurd h List.not_mem_nil) (by decide +kernel)
def kq_527 : ek := (199, [.inr 86, .inl (0, 0)], [], [], [(some (.inl (1, 1)), [])], 0, 0)
/-- LoadsAheadModel areStoresDone -/
theorem qk_527 (l : Launch) : ek_ok l tQ iQ kq_527 := ek_good_ok (sp := sQ) (K := []) (SP := []) (HS := [((2, [some (.inr 86, none), some (.inl (0, 0), none), some (.inl (0, 0), none)], [], [], []), [(0, (0, 0, 0), 0)])]) (N := 1) (fuel := 18) hIQ (fun _ h => absurd h List.not_mem_nil) (by decide +kernel)
def kq_528 : ek := (198, [.inr 86, .inl (0, 0)], [], [], [(some (.inl (0, 0)), [])], 1, 22)
/-- LoadsAheadModel isKeptBack -/
theorem qk_528 (l : Launch) : ek_ok l tQ iQ kq_528 := ek_good_ok (sp := sQ) (K := [kq_527]) (SP := []) (HS := [((47, [some (.inr 86, none), some (.inl (0, 0), none), some (.inl ((-1), (-1)), none)], [], [], []), [(0, (0, 0, 0), 0)])]) (N := 1) (fuel := 48) hIQ (List.forall_mem_cons.mpr ⟨qk_527 l, fun _ h => absurd h List.not_mem_nil⟩) (by decide +kernel)
