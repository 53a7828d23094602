def kq_518 : ek := (188, [.inr 86, .inl (0, 15), .inl (0, 7)], [], [], [(some (.inl (1, 1)), []), (some (.inl (0, 0)), [])], 1, 22)
/-- LoadsAheadModel tookOld -/
theorem qk_518 (l : Launch) : ek_ok l tQ iQ kq_518 := ek_good_ok (sp := sQ) (K := [kq_512]) (SP := []) (HS := [((2, [some (.inr 86, none), some (.inl (0, 15), none), some (.inl (0, 7), none), some (.inl (0, 4), none)], [], [], []), [(0, (0, 0, 0), 0), (1, (1, 3, 0), 4), (0, (0, 0, 0), 0)])]) (N := 3) (fuel := 70) hIQ (List.forall_mem_cons.mpr ⟨qk_512 l, fun _ h => absurd h List.not_mem_nil⟩) (by decide +kernel)
def kq_519 : ek := (174, [.inr 86, .inl (0, 15), .inl (0, 7)], [], [], [(some (.inl (1, 1)), []), (some (.inl (0, 0)), [])], 0, 0)
/-- LoadsAheadModel gives -/
theorem qk_519 (l : Launch) : ek_ok l tQ iQ kq_519 := ek_good_ok (sp := sQ) (K := []) (SP := []) (HS := []) (N := 0) (fuel := 38) hIQ (fun _ h => absurd h List.not_mem_nil) (by decide +kernel)
def kq_520 : ek := (173, [.inr 86, .inl (0, 15), .inl (0, 7)], [], [], [(some (.inl (0, 14)), []), (some (.inl ((-1), (-1))), [])], 1, 22)
/-- LoadsAheadModel giverOf -/
theorem qk_520 (l : Launch) : ek_ok l tQ iQ kq_520 := ek_good_ok (sp := sQ) (K := [kq_519]) (SP := []) (HS := [((4, [some (.inr 86, none), some (.inl (0, 15), none), some (.inl (0, 7), none), some (.inl ((-1), 14), none)], [], [], []), [(0, (0, 0, 0), 0), (2, (1, 3, 0), (-1)), (0, (0, 0, 0), 0)])]) (N := 3) (fuel := 28) hIQ (List.forall_mem_cons.mpr ⟨qk_519 l, fun _ h => absurd h List.not_mem_nil⟩) (by decide +kernel)
def kq_521 : ek := (180, [.inr 86, .inl (0, 15), .inl (0, 7)], [], [], [(some (.inl ((-2147483648), 2147483647)), [])], 2, 45)
/-- LoadsAheadModel readBy -/
theorem qk_521 (l : Launch) : ek_ok l tQ iQ kq_521 := ek_good_ok (sp := sQ) (K := [kq_520]) (SP := []) (HS := []) (N := 0) (fuel := 36) hIQ (List.forall_mem_cons.mpr ⟨qk_520 l, fun _ h => absurd h List.not_mem_nil⟩) (by decide +kernel)
def kq_522 : ek := (182, [.inr 86, .inl (0, 15)], [], [], [(some (.inl (0, 63)), [])], 3, 68)
/-- LoadsAheadModel placeBy -/
theorem qk_522 (l : Launch) : ek_ok l tQ iQ kq_522 := ek_good_ok (sp := sQ) (K := [kq_521]) (SP := []) (HS := []) (N := 0) (fuel := 54) hIQ (List.forall_mem_cons.mpr ⟨qk_521 l, fun _ h => absurd h List.not_mem_nil⟩) (by decide +kernel)
def kq_523 : ek := (184, [.inr 86, .inl (0, 15), .inl (0, 63)], [], [], [(some (.inl (1, 1)), []), (some (.inl (0, 0)), [])], 0, 0)
/-- LoadsAheadModel covers -/
theorem qk_523 (l : Launch) : ek_ok l tQ iQ kq_523 := ek_good_ok (sp := sQ) (K := []) (SP := []) (HS := []) (N := 0) (fuel := 40) hIQ (fun _ h => absurd h List.not_mem_nil) (by decide +kernel)
def kq_524 : ek := (183, [.inr 86, .inl (0, 15)], [], [(120, 999), (124, 999)], [(none, [])], 1, 22)
/-- LoadsAheadModel loads -/
theorem qk_524 (l : Launch) : ek_ok l tQ iQ kq_524 := ek_good_ok (sp := sQ) (K := [kq_523, kq_433]) (SP := []) (HS := [((9, [some (.inr 86, none), some (.inl (0, 15), none), some (.inl (0, 4), none), none, none, none], [], [], []), [(0, (0, 0, 0), 0), (1, (1, 2, 0), 4), (0, (0, 0, 0), 1), (0, (0, 0, 0), 0), (0, (0, 0, 0), 0)]), ((37, [some (.inr 86, none), some (.inl (0, 15), none), some (.inl (0, 3), none), some (.inl (0, 63), none), some (.inl ((-1), 15), none), some (.inl (0, 15), none)], [], [], []), [(0, (0, 0, 0), 0), (1, (1, 2, 0), 4), (0, (0, 0, 0), 0), (1, (1, 5, 0), 15), (0, (0, 0, 0), 0)])]) (N := 5) (fuel := 100) hIQ (List.forall_mem_cons.mpr ⟨qk_523 l, List.forall_mem_cons.mpr ⟨qk_433 l, fun _ h => absurd h List.not_mem_nil⟩⟩) (by decide +kernel)
def kq_525 : ek := (188, [.inr 86, .inl (0, 19), .inl (0, 15)], [], [], [(some (.inl (1, 1)), []), (some (.inl (0, 0)), [])], 1, 22)
/-- LoadsAheadModel tookOld -/
theorem qk_525 (l : Launch) : ek_ok l tQ iQ kq_525 := ek_good_ok (sp := sQ) (K := [kq_523]) (SP := []) (HS := [((2, [some (.inr 86, none), some (.inl (0, 19), none), some (.inl (0, 15), none), some (.inl (0, 4), none)], [], [], []), [(0, (0, 0, 0), 0), (1, (1, 3, 0), 4), (0, (0, 0, 0), 0)])]) (N := 3) (fuel := 70) hIQ (List.forall_mem_cons.mpr ⟨qk_523 l, fun _ h => absurd h List.not_mem_nil⟩) (by decide +kernel)
def kq_526 : ek := (189, [.inr 86, .inl (0, 19), .inl (0, 15)], [], [(84, 3), (87, 999)], [(none, [])], 1, 21)
/-- LoadsAheadModel melts -/
theorem qk_526 (l : Launch) : ek_ok l tQ iQ kq_526 := ek_good_ok (sp := sQ) (K := [kq_437]) (SP := []) (HS := []) (N := 0) (fuel := 90) hIQ (List.forall_mem_cons.mpr ⟨qk_437 l, fun _ h => absurd h List.not_mem_nil⟩) (by decide +kernel)
def kq_529 : ek := (172, [.inr 86, .inl (0, 0), .inl (0, 7)], [], [], [(some (.inl (1, 1)), []), (some (.inl (0, 0)), [])], 0, 0)
/-- LoadsAheadModel doesRead -/
theorem qk_529 (l : Launch) : ek_ok l tQ iQ kq_529 := ek_good_ok (sp := sQ) (K := []) (SP := []) (HS := []) (N := 0) (fuel := 48) hIQ (fun _ h => absurd h List.not_mem_nil) (by decide +kernel)
def kq_530 : ek := (197, [.inr 86, .inl (0, 0)], [], [], [(some (.inl (1, 1)), [])], 1, 23)
/-- LoadsAheadModel areSourcesDone -/
theorem qk_530 (l : Launch) : ek_ok l tQ iQ kq_530 := ek_good_ok (sp := sQ) (K := [kq_529, kq_470]) (SP := []) (HS := [((2, [some (.inr 86, none), some (.inl (0, 0), none), some (.inl (0, 8), none), none], [], [], []), [(0, (0, 0, 0), 0), (1, (1, 2, 0), 8), (0, (0, 0, 0), 0)])]) (N := 3) (fuel := 48) hIQ (List.forall_mem_cons.mpr ⟨qk_529 l, List.forall_mem_cons.mpr ⟨qk_470 l, fun _ h => absurd h List.not_mem_nil⟩⟩) (by decide +kernel)
def kq_531 : ek := (172, [.inr 86, .inl (0, 0), .inl (0, 0)], [], [], [(some (.inl (1, 1)), []), (some (.inl (0, 0)), [])], 0, 0)
/-- LoadsAheadModel doesRead -/
theorem qk_531 (l : Launch) : ek_ok l tQ iQ kq_531 := ek_good_ok (sp := sQ) (K := []) (SP := []) (HS := []) (N := 0) (fuel := 48) hIQ (fun _ h => absurd h List.not_mem_nil) (by decide +kernel)
def kq_532 : ek := (172, [.inr 86, .inl (0, 0), .inl (0, 1)], [], [], [(some (.inl (1, 1)), []), (some (.inl (0, 0)), [])], 0, 0)
/-- LoadsAheadModel doesRead -/
theorem qk_532 (l : Launch) : ek_ok l tQ iQ kq_532 := ek_good_ok (sp := sQ) (K := []) (SP := []) (HS := []) (N := 0) (fuel := 48) hIQ (fun _ h => absurd h List.not_mem_nil) (by decide +kernel)
def kq_533 : ek := (172, [.inr 86, .inl (0, 0), .inl (0, 3)], [], [], [(some (.inl (1, 1)), []), (some (.inl (0, 0)), [])], 0, 0)
/-- LoadsAheadModel doesRead -/
theorem qk_533 (l : Launch) : ek_ok l tQ iQ kq_533 := ek_good_ok (sp := sQ) (K := []) (SP := []) (HS := []) (N := 0) (fuel := 48) hIQ (fun _ h => absurd h List.not_mem_nil) (by decide +kernel)
def kq_534 : ek := (173, [.inr 86, .inl (0, 0), .inl (0, 3)], [], [], [(some (.inl ((-1), (-1))), [])], 0, 0)
/-- LoadsAheadModel giverOf -/
theorem qk_534 (l : Launch) : ek_ok l tQ iQ kq_534 := ek_good_ok (sp := sQ) (K := []) (SP := []) (HS := [((4, [some (.inr 86, none), some (.inl (0, 0), none), some (.inl (0, 3), none), some (.inl ((-1), (-1)), none)], [], [], []), [(0, (0, 0, 0), 0)])]) (N := 1) (fuel := 18) hIQ (fun _ h => absurd h List.not_mem_nil) (by decide +kernel)
def kq_535 : ek := (173, [.inr 86, .inl (0, 0), .inl (0, 1)], [], [], [(some (.inl ((-1), (-1))), [])], 0, 0)
/-- LoadsAheadModel giverOf -/
theorem qk_535 (l : Launch) : ek_ok l tQ iQ kq_535 := ek_good_ok (sp := sQ) (K := []) (SP := []) (HS := [((4, [some (.inr 86, none), some (.inl (0, 0), none), some (.inl (0, 1), none), some (.inl ((-1), (-1)), none)], [], [], []), [(0, (0, 0, 0), 0)])]) (N := 1) (fuel := 18) hIQ (fun _ h => absurd h List.not_mem_nil) (by decide +kernel)
def kq_536 : ek := (173, [.inr 86, .inl (0, 0), .inl (0, 0)], [], [], [(some (.inl ((-1), (-1))), [])], 0, 0)
/-- LoadsAheadModel giverOf -/
theorem qk_536 (l : Launch) : ek_ok l tQ iQ kq_536 := ek_good_ok (sp := sQ) (K := []) (SP := []) (HS := [((4, [some (.inr 86, none), some (.inl (0, 0), none), some (.inl (0, 0), none), some (.inl ((-1), (-1)), none)], [], [], []), [(0, (0, 0, 0), 0)])]) (N := 1) (fuel := 18) hIQ (fun _ h => absurd h List.not_mem_nil) (by decide +kernel)
def kq_537 : ek := (199, [.inr 86, .inl (0, 0)], [], [], [(some (.inl (1, 1)), [])], 0, 0)
/-- LoadsAheadModel areStoresDone -/
theorem qk_537 (l : Launch) : ek_ok l tQ iQ kq_537 := ek_good_ok (sp := sQ) (K := []) (SP := []) (HS := [((2, [some (.inr 86, none), some (.inl (0, 0), none), some (.inl (0, 0), none)], [], [], []), [(0, (0, 0, 0), 0)])]) (N := 1) (fuel := 18) hIQ (fun _ h => absurd h List.not_mem_nil) (by decide +kernel)
def kq_538 : ek := (198, [.inr 86, .inl (0, 0)], [], [], [(some (.inl (0, 0)), [])], 1, 22)
/-- LoadsAheadModel isKeptBack -/
theorem qk_538 (l : Launch) : ek_ok l tQ iQ kq_538 := ek_good_ok (sp := sQ) (K := [kq_537]) (SP := []) (HS := [((47, [some (.inr 86, none), some (.inl (0, 0), none), some (.inl ((-1), (-1)), none)], [], [], []), [(0, (0, 0, 0), 0)])]) (N := 1) (fuel := 48) hIQ (List.forall_mem_cons.mpr ⟨qk_537 l, fun _ h => absurd h List.not_mem_nil⟩) (by decide +kernel)
def kq_539 : ek := (201, [.inr 86, .inl (0, 0), .inl (0, 0), .inl (0, 15)], [], [(109, 999)], [(none, [])], 0, 0)
/-- LoadsAheadModel feels -/
theorem qk_539 (l : Launch) : ek_ok l tQ iQ kq_539 := ek_good_ok (sp := sQ) (K := []) (SP := []) (HS := []) (N := 0) (fuel := 120) hIQ (fun _ h => absurd h List.not_mem_nil) (by decide +kernel)
def kq_542 : ek := (172, [.inr 86, .inl (0, 1), .inl (0, 7)], [], [], [(some (.inl (1, 1)), []), (some (.inl (0, 0)), [])], 0, 0)
/-- LoadsAheadModel doesRead -/
theorem qk_542 (l : Launch) : ek_ok l tQ iQ kq_542 := ek_good_ok (sp := sQ) (K := []) (SP := []) (HS := []) (N := 0) (fuel := 48) hIQ (fun _ h => absurd h List.not_mem_nil) (by decide +kernel)
def kq_543 : ek := (197, [.inr 86, .inl (0, 1)], [], [], [(some (.inl (0, 0)), []), (some (.inl (1, 1)), [])], 2, 45)
/-- LoadsAheadModel areSourcesDone -/
theorem qk_543 (l : Launch) : ek_ok l tQ iQ kq_543 := ek_good_ok (sp := sQ) (K := [kq_484, kq_542]) (SP := []) (HS := [((2, [some (.inr 86, none), some (.inl (0, 1), none), some (.inl (0, 8), none), none], [], [], []), [(0, (0, 0, 0), 0), (1, (1, 2, 0), 8), (0, (0, 0, 0), 0)])]) (N := 3) (fuel := 60) hIQ (List.forall_mem_cons.mpr ⟨qk_484 l, List.forall_mem_cons.mpr ⟨qk_542 l, fun _ h => absurd h List.not_mem_nil⟩⟩) (by decide +kernel)
def kq_544 : ek := (172, [.inr 86, .inl (0, 1), .inl (0, 0)], [], [], [(some (.inl (1, 1)), []), (some (.inl (0, 0)), [])], 0, 0)
/-- LoadsAheadModel doesRead -/
theorem qk_544 (l : Launch) : ek_ok l tQ iQ kq_544 := ek_good_ok (sp := sQ) (K := []) (SP := []) (HS := []) (N := 0) (fuel := 48) hIQ (fun _ h => absurd h List.not_mem_nil) (by decide +kernel)
def kq_545 : ek := (172, [.inr 86, .inl (0, 1), .inl (0, 1)], [], [], [(some (.inl (1, 1)), []), (some (.inl (0, 0)), [])], 0, 0)
/-- LoadsAheadModel doesRead -/
theorem qk_545 (l : Launch) : ek_ok l tQ iQ kq_545 := ek_good_ok (sp := sQ) (K := []) (SP := []) (HS := []) (N := 0) (fuel := 48) hIQ (fun _ h => absurd h List.not_mem_nil) (by decide +kernel)
def kq_546 : ek := (172, [.inr 86, .inl (0, 1), .inl (0, 3)], [], [], [(some (.inl (1, 1)), []), (some (.inl (0, 0)), [])], 0, 0)
/-- LoadsAheadModel doesRead -/
theorem qk_546 (l : Launch) : ek_ok l tQ iQ kq_546 := ek_good_ok (sp := sQ) (K := []) (SP := []) (HS := []) (N := 0) (fuel := 48) hIQ (fun _ h => absurd h List.not_mem_nil) (by decide +kernel)
def kq_547 : ek := (174, [.inr 86, .inl (0, 0), .inl (0, 3)], [], [], [(some (.inl (1, 1)), []), (some (.inl (0, 0)), [])], 0, 0)
/-- LoadsAheadModel gives -/
theorem qk_547 (l : Launch) : ek_ok l tQ iQ kq_547 := ek_good_ok (sp := sQ) (K := []) (SP := []) (HS := []) (N := 0) (fuel := 38) hIQ (fun _ h => absurd h List.not_mem_nil) (by decide +kernel)
def kq_548 : ek := (173, [.inr 86, .inl (0, 1), .inl (0, 3)], [], [], [(some (.inl (0, 0)), []), (some (.inl ((-1), (-1))), [])], 1, 22)
/-- LoadsAheadModel giverOf -/
theorem qk_548 (l : Launch) : ek_ok l tQ iQ kq_548 := ek_good_ok (sp := sQ) (K := [kq_547]) (SP := []) (HS := [((4, [some (.inr 86, none), some (.inl (0, 1), none), some (.inl (0, 3), none), some (.inl ((-1), 0), none)], [], [], []), [(0, (0, 0, 0), 0), (2, (1, 3, 0), (-1)), (0, (0, 0, 0), 0)])]) (N := 3) (fuel := 28) hIQ (List.forall_mem_cons.mpr ⟨qk_547 l, fun _ h => absurd h List.not_mem_nil⟩) (by decide +kernel)
def kq_549 : ek := (174, [.inr 86, .inl (0, 0), .inl (0, 1)], [], [], [(some (.inl (1, 1)), []), (some (.inl (0, 0)), [])], 0, 0)
/-- LoadsAheadModel gives -/
theorem qk_549 (l : Launch) : ek_ok l tQ iQ kq_549 := ek_good_ok (sp := sQ) (K := []) (SP := []) (HS := []) (N := 0) (fuel := 38) hIQ (fun _ h => absurd h List.not_mem_nil) (by decide +kernel)
def kq_550 : ek := (173, [.inr 86, .inl (0, 1), .inl (0, 1)], [], [], [(some (.inl (0, 0)), []), (some (.inl ((-1), (-1))), [])], 1, 22)
/-- LoadsAheadModel giverOf -/
theorem qk_550 (l : Launch) : ek_ok l tQ iQ kq_550 := ek_good_ok (sp := sQ) (K := [kq_549]) (SP := []) (HS := [((4, [some (.inr 86, none), some (.inl (0, 1), none), some (.inl (0, 1), none), some (.inl ((-1), 0), none)], [], [], []), [(0, (0, 0, 0), 0), (2, (1, 3, 0), (-1)), (0, (0, 0, 0), 0)])]) (N := 3) (fuel := 28) hIQ (List.forall_mem_cons.mpr ⟨qk_549 l, fun _ h => absurd h List.not_mem_nil⟩) (by decide +kernel)
def kq_551 : ek := (174, [.inr 86, .inl (0, 0), .inl (0, 0)], [], [], [(some (.inl (1, 1)), []), (some (.inl (0, 0)), [])], 0, 0)
/-- LoadsAheadModel gives -/
theorem qk_551 (l : Launch) : ek_ok l tQ iQ kq_551 := ek_good_ok (sp := sQ) (K := []) (SP := []) (HS := []) (N := 0) (fuel := 38) hIQ (fun _ h => absurd h List.not_mem_nil) (by decide +kernel)
def kq_552 : ek := (173, [.inr 86, .inl (0, 1), .inl (0, 0)], [], [], [(some (.inl (0, 0)), []), (some (.inl ((-1), (-1))), [])], 1, 22)
/-- LoadsAheadModel giverOf -/
theorem qk_552 (l : Launch) : ek_ok l tQ iQ kq_552 := ek_good_ok (sp := sQ) (K := [kq_551]) (SP := []) (HS := [((4, [some (.inr 86, none), some (.inl (0, 1), none), some (.inl (0, 0), none), some (.inl ((-1), 0), none)], [], [], []), [(0, (0, 0, 0), 0), (2, (1, 3, 0), (-1)), (0, (0, 0, 0), 0)])]) (N := 3) (fuel := 28) hIQ (List.forall_mem_cons.mpr ⟨qk_551 l, fun _ h => absurd h List.not_mem_nil⟩) (by decide +kernel)
def kq_553 : ek := (199, [.inr 86, .inl (0, 1)], [], [], [(some (.inl (0, 0)), []), (some (.inl (1, 1)), [])], 0, 0)
/-- LoadsAheadModel areStoresDone -/
theorem qk_553 (l : Launch) : ek_ok l tQ iQ kq_553 := ek_good_ok (sp := sQ) (K := []) (SP := []) (HS := [((2, [some (.inr 86, none), some (.inl (0, 1), none), some (.inl (0, 1), none)], [], [], []), [(0, (0, 0, 0), 0), (1, (1, 2, 0), 1), (0, (0, 0, 0), 0)])]) (N := 3) (fuel := 44) hIQ (fun _ h => absurd h List.not_mem_nil) (by decide +kernel)
def kq_554 : ek := (198, [.inr 86, .inl (0, 1)], [], [], [(some (.inl (0, 0)), []), (some (.inl (1, 1)), [])], 1, 22)
/-- LoadsAheadModel isKeptBack -/
theorem qk_554 (l : Launch) : ek_ok l tQ iQ kq_554 := ek_good_ok (sp := sQ) (K := [kq_553]) (SP := []) (HS := [((47, [some (.inr 86, none), some (.inl (0, 1), none), some (.inl ((-1), 0), none)], [], [], []), [(0, (0, 0, 0), 0), (2, (1, 2, 0), (-1)), (0, (0, 0, 0), 0)])]) (N := 3) (fuel := 60) hIQ (List.forall_mem_cons.mpr ⟨qk_553 l, fun _ h => absurd h List.not_mem_nil⟩) (by decide +kernel)
def kq_555 : ek := (172, [.inr 86, .inl (0, 3), .inl (0, 7)], [], [], [(some (.inl (1, 1)), []), (some (.inl (0, 0)), [])], 0, 0)
/-- LoadsAheadModel doesRead -/
theorem qk_555 (l : Launch) : ek_ok l tQ iQ kq_555 := ek_good_ok (sp := sQ) (K := []) (SP := []) (HS := []) (N := 0) (fuel := 48) hIQ (fun _ h => absurd h List.not_mem_nil) (by decide +kernel)
def kq_556 : ek := (197, [.inr 86, .inl (0, 3)], [], [], [(some (.inl (0, 0)), []), (some (.inl (1, 1)), [])], 2, 45)
/-- LoadsAheadModel areSourcesDone -/
theorem qk_556 (l : Launch) : ek_ok l tQ iQ kq_556 := ek_good_ok (sp := sQ) (K := [kq_555, kq_497]) (SP := []) (HS := [((2, [some (.inr 86, none), some (.inl (0, 3), none), some (.inl (0, 8), none), none], [], [], []), [(0, (0, 0, 0), 0), (1, (1, 2, 0), 8), (0, (0, 0, 0), 0)])]) (N := 3) (fuel := 60) hIQ (List.forall_mem_cons.mpr ⟨qk_555 l, List.forall_mem_cons.mpr ⟨qk_497 l, fun _ h => absurd h List.not_mem_nil⟩⟩) (by decide +kernel)
def kq_557 : ek := (172, [.inr 86, .inl (0, 3), .inl (0, 0)], [], [], [(some (.inl (1, 1)), []), (some (.inl (0, 0)), [])], 0, 0)
/-- LoadsAheadModel doesRead -/
theorem qk_557 (l : Launch) : ek_ok l tQ iQ kq_557 := ek_good_ok (sp := sQ) (K := []) (SP := []) (HS := []) (N := 0) (fuel := 48) hIQ (fun _ h => absurd h List.not_mem_nil) (by decide +kernel)
def kq_558 : ek := (172, [.inr 86, .inl (0, 3), .inl (0, 1)], [], [], [(some (.inl (1, 1)), []), (some (.inl (0, 0)), [])], 0, 0)
/-- LoadsAheadModel doesRead -/
theorem qk_558 (l : Launch) : ek_ok l tQ iQ kq_558 := ek_good_ok (sp := sQ) (K := []) (SP := []) (HS := []) (N := 0) (fuel := 48) hIQ (fun _ h => absurd h List.not_mem_nil) (by decide +kernel)
def kq_559 : ek := (172, [.inr 86, .inl (0, 3), .inl (0, 3)], [], [], [(some (.inl (1, 1)), []), (some (.inl (0, 0)), [])], 0, 0)
/-- LoadsAheadModel doesRead -/
theorem qk_559 (l : Launch) : ek_ok l tQ iQ kq_559 := ek_good_ok (sp := sQ) (K := []) (SP := []) (HS := []) (N := 0) (fuel := 48) hIQ (fun _ h => absurd h List.not_mem_nil) (by decide +kernel)
def kq_560 : ek := (174, [.inr 86, .inl (0, 3), .inl (0, 3)], [], [], [(some (.inl (1, 1)), []), (some (.inl (0, 0)), [])], 0, 0)
/-- LoadsAheadModel gives -/
theorem qk_560 (l : Launch) : ek_ok l tQ iQ kq_560 := ek_good_ok (sp := sQ) (K := []) (SP := []) (HS := []) (N := 0) (fuel := 38) hIQ (fun _ h => absurd h List.not_mem_nil) (by decide +kernel)
def kq_561 : ek := (173, [.inr 86, .inl (0, 3), .inl (0, 3)], [], [], [(some (.inl (0, 2)), []), (some (.inl ((-1), (-1))), [])], 1, 22)
/-- LoadsAheadModel giverOf -/
theorem qk_561 (l : Launch) : ek_ok l tQ iQ kq_561 := ek_good_ok (sp := sQ) (K := [kq_560]) (SP := []) (HS := [((4, [some (.inr 86, none), some (.inl (0, 3), none), some (.inl (0, 3), none), some (.inl ((-1), 2), none)], [], [], []), [(0, (0, 0, 0), 0), (2, (1, 3, 0), (-1)), (0, (0, 0, 0), 0)])]) (N := 3) (fuel := 28) hIQ (List.forall_mem_cons.mpr ⟨qk_560 l, fun _ h => absurd h List.not_mem_nil⟩) (by decide +kernel)
def kq_562 : ek := (174, [.inr 86, .inl (0, 3), .inl (0, 1)], [], [], [(some (.inl (1, 1)), []), (some (.inl (0, 0)), [])], 0, 0)
/-- LoadsAheadModel gives -/
theorem qk_562 (l : Launch) : ek_ok l tQ iQ kq_562 := ek_good_ok (sp := sQ) (K := []) (SP := []) (HS := []) (N := 0) (fuel := 38) hIQ (fun _ h => absurd h List.not_mem_nil) (by decide +kernel)
def kq_563 : ek := (173, [.inr 86, .inl (0, 3), .inl (0, 1)], [], [], [(some (.inl (0, 2)), []), (some (.inl ((-1), (-1))), [])], 1, 22)
/-- LoadsAheadModel giverOf -/
theorem qk_563 (l : Launch) : ek_ok l tQ iQ kq_563 := ek_good_ok (sp := sQ) (K := [kq_562]) (SP := []) (HS := [((4, [some (.inr 86, none), some (.inl (0, 3), none), some (.inl (0, 1), none), some (.inl ((-1), 2), none)], [], [], []), [(0, (0, 0, 0), 0), (2, (1, 3, 0), (-1)), (0, (0, 0, 0), 0)])]) (N := 3) (fuel := 28) hIQ (List.forall_mem_cons.mpr ⟨qk_562 l, fun _ h => absurd h List.not_mem_nil⟩) (by decide +kernel)
def kq_564 : ek := (174, [.inr 86, .inl (0, 3), .inl (0, 0)], [], [], [(some (.inl (1, 1)), []), (some (.inl (0, 0)), [])], 0, 0)
/-- LoadsAheadModel gives -/
theorem qk_564 (l : Launch) : ek_ok l tQ iQ kq_564 := ek_good_ok (sp := sQ) (K := []) (SP := []) (HS := []) (N := 0) (fuel := 38) hIQ (fun _ h => absurd h List.not_mem_nil) (by decide +kernel)
def kq_565 : ek := (173, [.inr 86, .inl (0, 3), .inl (0, 0)], [], [], [(some (.inl (0, 2)), []), (some (.inl ((-1), (-1))), [])], 1, 22)
/-- LoadsAheadModel giverOf -/
theorem qk_565 (l : Launch) : ek_ok l tQ iQ kq_565 := ek_good_ok (sp := sQ) (K := [kq_564]) (SP := []) (HS := [((4, [some (.inr 86, none), some (.inl (0, 3), none), some (.inl (0, 0), none), some (.inl ((-1), 2), none)], [], [], []), [(0, (0, 0, 0), 0), (2, (1, 3, 0), (-1)), (0, (0, 0, 0), 0)])]) (N := 3) (fuel := 28) hIQ (List.forall_mem_cons.mpr ⟨qk_564 l, fun _ h => absurd h List.not_mem_nil⟩) (by decide +kernel)
def kq_566 : ek := (199, [.inr 86, .inl (0, 3)], [], [], [(some (.inl (0, 0)), []), (some (.inl (1, 1)), [])], 0, 0)
/-- LoadsAheadModel areStoresDone -/
theorem qk_566 (l : Launch) : ek_ok l tQ iQ kq_566 := ek_good_ok (sp := sQ) (K := []) (SP := []) (HS := [((2, [some (.inr 86, none), some (.inl (0, 3), none), some (.inl (0, 3), none)], [], [], []), [(0, (0, 0, 0), 0), (1, (1, 2, 0), 3), (0, (0, 0, 0), 0)])]) (N := 3) (fuel := 44) hIQ (fun _ h => absurd h List.not_mem_nil) (by decide +kernel)
def kq_567 : ek := (198, [.inr 86, .inl (0, 3)], [], [], [(some (.inl (0, 0)), []), (some (.inl (1, 1)), [])], 1, 22)
/-- LoadsAheadModel isKeptBack -/
theorem qk_567 (l : Launch) : ek_ok l tQ iQ kq_567 := ek_good_ok (sp := sQ) (K := [kq_566]) (SP := []) (HS := [((47, [some (.inr 86, none), some (.inl (0, 3), none), some (.inl ((-1), 2), none)], [], [], []), [(0, (0, 0, 0), 0), (2, (1, 2, 0), (-1)), (0, (0, 0, 0), 0)])]) (N := 3) (fuel := 60) hIQ (List.forall_mem_cons.mpr ⟨qk_566 l, fun _ h => absurd h List.not_mem_nil⟩) (by decide +kernel)
def kq_568 : ek := (172, [.inr 86, .inl (0, 7), .inl (0, 7)], [], [], [(some (.inl (1, 1)), []), (some (.inl (0, 0)), [])], 0, 0)
/-- LoadsAheadModel doesRead -/
theorem qk_568 (l : Launch) : ek_ok l tQ iQ kq_568 := ek_good_ok (sp := sQ) (K := []) (SP := []) (HS := []) (N := 0) (fuel := 48) hIQ (fun _ h => absurd h List.not_mem_nil) (by decide +kernel)
def kq_569 : ek := (197, [.inr 86, .inl (0, 7)], [], [], [(some (.inl (0, 0)), []), (some (.inl (1, 1)), [])], 2, 45)
/-- LoadsAheadModel areSourcesDone -/
theorem qk_569 (l : Launch) : ek_ok l tQ iQ kq_569 := ek_good_ok (sp := sQ) (K := [kq_509, kq_568]) (SP := []) (HS := [((2, [some (.inr 86, none), some (.inl (0, 7), none), some (.inl (0, 8), none), none], [], [], []), [(0, (0, 0, 0), 0), (1, (1, 2, 0), 8), (0, (0, 0, 0), 0)])]) (N := 3) (fuel := 60) hIQ (List.forall_mem_cons.mpr ⟨qk_509 l, List.forall_mem_cons.mpr ⟨qk_568 l, fun _ h => absurd h List.not_mem_nil⟩⟩) (by decide +kernel)
def kq_570 : ek := (172, [.inr 86, .inl (0, 7), .inl (0, 0)], [], [], [(some (.inl (1, 1)), []), (some (.inl (0, 0)), [])], 0, 0)
/-- LoadsAheadModel doesRead -/
theorem qk_570 (l : Launch) : ek_ok l tQ iQ kq_570 := ek_good_ok (sp := sQ) (K := []) (SP := []) (HS := []) (N := 0) (fuel := 48) hIQ (fun _ h => absurd h List.not_mem_nil) (by decide +kernel)
def kq_571 : ek := (172, [.inr 86, .inl (0, 7), .inl (0, 1)], [], [], [(some (.inl (1, 1)), []), (some (.inl (0, 0)), [])], 0, 0)
/-- LoadsAheadModel doesRead -/
theorem qk_571 (l : Launch) : ek_ok l tQ iQ kq_571 := ek_good_ok (sp := sQ) (K := []) (SP := []) (HS := []) (N := 0) (fuel := 48) hIQ (fun _ h => absurd h List.not_mem_nil) (by decide +kernel)
