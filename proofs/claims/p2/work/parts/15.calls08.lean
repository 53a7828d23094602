def kq_529 : ek := (201, [.inr 86, .inl (0, 0), .inl (0, 0), .inl (0, 15)], [], [(109, 999)], [(none, [])], 0, 0)
/-- LoadsAheadModel feels -/
theorem qk_529 (l : Launch) : ek_ok l tQ iQ kq_529 := ek_good_ok (sp := sQ) (K := []) (SP := []) (HS := []) (N := 0) (fuel := 120) hIQ (fun _ h => absurd h List.not_mem_nil) (by decide +kernel)
def kq_532 : ek := (172, [.inr 86, .inl (0, 1), .inl (0, 7)], [], [], [(some (.inl (1, 1)), []), (some (.inl (0, 0)), [])], 0, 0)
/-- LoadsAheadModel doesRead -/
theorem qk_532 (l : Launch) : ek_ok l tQ iQ kq_532 := ek_good_ok (sp := sQ) (K := []) (SP := []) (HS := []) (N := 0) (fuel := 48) hIQ (fun _ h => absurd h List.not_mem_nil) (by decide +kernel)
def kq_533 : ek := (197, [.inr 86, .inl (0, 1)], [], [], [(some (.inl (0, 0)), []), (some (.inl (1, 1)), [])], 2, 45)
/-- LoadsAheadModel areSourcesDone -/
theorem qk_533 (l : Launch) : ek_ok l tQ iQ kq_533 := ek_good_ok (sp := sQ) (K := [kq_532, kq_474]) (SP := []) (HS := [((2, [some (.inr 86, none), some (.inl (0, 1), none), some (.inl (0, 8), none), none], [], [], []), [(0, (0, 0, 0), 0), (1, (1, 2, 0), 8), (0, (0, 0, 0), 0)])]) (N := 3) (fuel := 60) hIQ (List.forall_mem_cons.mpr ⟨qk_532 l, List.forall_mem_cons.mpr ⟨qk_474 l, fun _ h => absurd h List.not_mem_nil⟩⟩) (by decide +kernel)
def kq_534 : ek := (172, [.inr 86, .inl (0, 1), .inl (0, 0)], [], [], [(some (.inl (1, 1)), []), (some (.inl (0, 0)), [])], 0, 0)
/-- LoadsAheadModel doesRead -/
theorem qk_534 (l : Launch) : ek_ok l tQ iQ kq_534 := ek_good_ok (sp := sQ) (K := []) (SP := []) (HS := []) (N := 0) (fuel := 48) hIQ (fun _ h => absurd h List.not_mem_nil) (by decide +kernel)
def kq_535 : ek := (172, [.inr 86, .inl (0, 1), .inl (0, 1)], [], [], [(some (.inl (1, 1)), []), (some (.inl (0, 0)), [])], 0, 0)
/-- LoadsAheadModel doesRead -/
theorem qk_535 (l : Launch) : ek_ok l tQ iQ kq_535 := ek_good_ok (sp := sQ) (K := []) (SP := []) (HS := []) (N := 0) (fuel := 48) hIQ (fun _ h => absurd h List.not_mem_nil) (by decide +kernel)
def kq_536 : ek := (172, [.inr 86, .inl (0, 1), .inl (0, 3)], [], [], [(some (.inl (1, 1)), []), (some (.inl (0, 0)), [])], 0, 0)
/-- LoadsAheadModel doesRead -/
theorem qk_536 (l : Launch) : ek_ok l tQ iQ kq_536 := ek_good_ok (sp := sQ) (K := []) (SP := []) (HS := []) (N := 0) (fuel := 48) hIQ (fun _ h => absurd h List.not_mem_nil) (by decide +kernel)
def kq_537 : ek := (174, [.inr 86, .inl (0, 0), .inl (0, 3)], [], [], [(some (.inl (1, 1)), []), (some (.inl (0, 0)), [])], 0, 0)
/-- LoadsAheadModel gives -/
theorem qk_537 (l : Launch) : ek_ok l tQ iQ kq_537 := ek_good_ok (sp := sQ) (K := []) (SP := []) (HS := []) (N := 0) (fuel := 38) hIQ (fun _ h => absurd h List.not_mem_nil) (by decide +kernel)
def kq_538 : ek := (173, [.inr 86, .inl (0, 1), .inl (0, 3)], [], [], [(some (.inl (0, 0)), []), (some (.inl ((-1), (-1))), [])], 1, 22)
/-- LoadsAheadModel giverOf -/
theorem qk_538 (l : Launch) : ek_ok l tQ iQ kq_538 := ek_good_ok (sp := sQ) (K := [kq_537]) (SP := []) (HS := [((4, [some (.inr 86, none), some (.inl (0, 1), none), some (.inl (0, 3), none), some (.inl ((-1), 0), none)], [], [], []), [(0, (0, 0, 0), 0), (2, (1, 3, 0), (-1)), (0, (0, 0, 0), 0)])]) (N := 3) (fuel := 28) hIQ (List.forall_mem_cons.mpr ⟨qk_537 l, fun _ h => absurd h List.not_mem_nil⟩) (by decide +kernel)
def kq_539 : ek := (174, [.inr 86, .inl (0, 0), .inl (0, 1)], [], [], [(some (.inl (1, 1)), []), (some (.inl (0, 0)), [])], 0, 0)
/-- LoadsAheadModel gives -/
theorem qk_539 (l : Launch) : ek_ok l tQ iQ kq_539 := ek_good_ok (sp := sQ) (K := []) (SP := []) (HS := []) (N := 0) (fuel := 38) hIQ (fun _ h => absurd h List.not_mem_nil) (by decide +kernel)
def kq_540 : ek := (173, [.inr 86, .inl (0, 1), .inl (0, 1)], [], [], [(some (.inl (0, 0)), []), (some (.inl ((-1), (-1))), [])], 1, 22)
/-- LoadsAheadModel giverOf -/
theorem qk_540 (l : Launch) : ek_ok l tQ iQ kq_540 := ek_good_ok (sp := sQ) (K := [kq_539]) (SP := []) (HS := [((4, [some (.inr 86, none), some (.inl (0, 1), none), some (.inl (0, 1), none), some (.inl ((-1), 0), none)], [], [], []), [(0, (0, 0, 0), 0), (2, (1, 3, 0), (-1)), (0, (0, 0, 0), 0)])]) (N := 3) (fuel := 28) hIQ (List.forall_mem_cons.mpr ⟨qk_539 l, fun _ h => absurd h List.not_mem_nil⟩) (by decide +kernel)
def kq_541 : ek := (174, [.inr 86, .inl (0, 0), .inl (0, 0)], [], [], [(some (.inl (1, 1)), []), (some (.inl (0, 0)), [])], 0, 0)
/-- LoadsAheadModel gives -/
theorem qk_541 (l : Launch) : ek_ok l tQ iQ kq_541 := ek_good_ok (sp := sQ) (K := []) (SP := []) (HS := []) (N := 0) (fuel := 38) hIQ (fun _ h => absurd h List.not_mem_nil) (by decide +kernel)
def kq_542 : ek := (173, [.inr 86, .inl (0, 1), .inl (0, 0)], [], [], [(some (.inl (0, 0)), []), (some (.inl ((-1), (-1))), [])], 1, 22)
/-- LoadsAheadModel giverOf -/
theorem qk_542 (l : Launch) : ek_ok l tQ iQ kq_542 := ek_good_ok (sp := sQ) (K := [kq_541]) (SP := []) (HS := [((4, [some (.inr 86, none), some (.inl (0, 1), none), some (.inl (0, 0), none), some (.inl ((-1), 0), none)], [], [], []), [(0, (0, 0, 0), 0), (2, (1, 3, 0), (-1)), (0, (0, 0, 0), 0)])]) (N := 3) (fuel := 28) hIQ (List.forall_mem_cons.mpr ⟨qk_541 l, fun _ h => absurd h List.not_mem_nil⟩) (by decide +kernel)
def kq_543 : ek := (199, [.inr 86, .inl (0, 1)], [], [], [(some (.inl (0, 0)), []), (some (.inl (1, 1)), [])], 0, 0)
/-- LoadsAheadModel areStoresDone -/
theorem qk_543 (l : Launch) : ek_ok l tQ iQ kq_543 := ek_good_ok (sp := sQ) (K := []) (SP := []) (HS := [((2, [some (.inr 86, none), some (.inl (0, 1), none), some (.inl (0, 1), none)], [], [], []), [(0, (0, 0, 0), 0), (1, (1, 2, 0), 1), (0, (0, 0, 0), 0)])]) (N := 3) (fuel := 44) hIQ (fun _ h => absurd h List.not_mem_nil) (by decide +kernel)
def kq_544 : ek := (198, [.inr 86, .inl (0, 1)], [], [], [(some (.inl (0, 0)), []), (some (.inl (1, 1)), [])], 1, 22)
/-- LoadsAheadModel isKeptBack -/
theorem qk_544 (l : Launch) : ek_ok l tQ iQ kq_544 := ek_good_ok (sp := sQ) (K := [kq_543]) (SP := []) (HS := [((47, [some (.inr 86, none), some (.inl (0, 1), none), some (.inl ((-1), 0), none)], [], [], []), [(0, (0, 0, 0), 0), (2, (1, 2, 0), (-1)), (0, (0, 0, 0), 0)])]) (N := 3) (fuel := 60) hIQ (List.forall_mem_cons.mpr ⟨qk_543 l, fun _ h => absurd h List.not_mem_nil⟩) (by decide +kernel)
def kq_545 : ek := (172, [.inr 86, .inl (0, 3), .inl (0, 7)], [], [], [(some (.inl (1, 1)), []), (some (.inl (0, 0)), [])], 0, 0)
/-- LoadsAheadModel doesRead -/
theorem qk_545 (l : Launch) : ek_ok l tQ iQ kq_545 := ek_good_ok (sp := sQ) (K := []) (SP := []) (HS := []) (N := 0) (fuel := 48) hIQ (fun _ h => absurd h List.not_mem_nil) (by decide +kernel)
def kq_546 : ek := (197, [.inr 86, .inl (0, 3)], [], [], [(some (.inl (0, 0)), []), (some (.inl (1, 1)), [])], 2, 45)
/-- LoadsAheadModel areSourcesDone -/
theorem qk_546 (l : Launch) : ek_ok l tQ iQ kq_546 := ek_good_ok (sp := sQ) (K := [kq_545, kq_487]) (SP := []) (HS := [((2, [some (.inr 86, none), some (.inl (0, 3), none), some (.inl (0, 8), none), none], [], [], []), [(0, (0, 0, 0), 0), (1, (1, 2, 0), 8), (0, (0, 0, 0), 0)])]) (N := 3) (fuel := 60) hIQ (List.forall_mem_cons.mpr ⟨qk_545 l, List.forall_mem_cons.mpr ⟨qk_487 l, fun _ h => absurd h List.not_mem_nil⟩⟩) (by decide +kernel)
def kq_547 : ek := (172, [.inr 86, .inl (0, 3), .inl (0, 0)], [], [], [(some (.inl (1, 1)), []), (some (.inl (0, 0)), [])], 0, 0)
/-- LoadsAheadModel doesRead -/
theorem qk_547 (l : Launch) : ek_ok l tQ iQ kq_547 := ek_good_ok (sp := sQ) (K := []) (SP := []) (HS := []) (N := 0) (fuel := 48) hIQ (fun _ h => absurd h List.not_mem_nil) (by decide +kernel)
def kq_548 : ek := (172, [.inr 86, .inl (0, 3), .inl (0, 1)], [], [], [(some (.inl (1, 1)), []), (some (.inl (0, 0)), [])], 0, 0)
/-- LoadsAheadModel doesRead -/
theorem qk_548 (l : Launch) : ek_ok l tQ iQ kq_548 := ek_good_ok (sp := sQ) (K := []) (SP := []) (HS := []) (N := 0) (fuel := 48) hIQ (fun _ h => absurd h List.not_mem_nil) (by decide +kernel)
def kq_549 : ek := (172, [.inr 86, .inl (0, 3), .inl (0, 3)], [], [], [(some (.inl (1, 1)), []), (some (.inl (0, 0)), [])], 0, 0)
/-- LoadsAheadModel doesRead -/
theorem qk_549 (l : Launch) : ek_ok l tQ iQ kq_549 := ek_good_ok (sp := sQ) (K := []) (SP := []) (HS := []) (N := 0) (fuel := 48) hIQ (fun _ h => absurd h List.not_mem_nil) (by decide +kernel)
def kq_550 : ek := (174, [.inr 86, .inl (0, 3), .inl (0, 3)], [], [], [(some (.inl (1, 1)), []), (some (.inl (0, 0)), [])], 0, 0)
/-- LoadsAheadModel gives -/
theorem qk_550 (l : Launch) : ek_ok l tQ iQ kq_550 := ek_good_ok (sp := sQ) (K := []) (SP := []) (HS := []) (N := 0) (fuel := 38) hIQ (fun _ h => absurd h List.not_mem_nil) (by decide +kernel)
def kq_551 : ek := (173, [.inr 86, .inl (0, 3), .inl (0, 3)], [], [], [(some (.inl (0, 2)), []), (some (.inl ((-1), (-1))), [])], 1, 22)
/-- LoadsAheadModel giverOf -/
theorem qk_551 (l : Launch) : ek_ok l tQ iQ kq_551 := ek_good_ok (sp := sQ) (K := [kq_550]) (SP := []) (HS := [((4, [some (.inr 86, none), some (.inl (0, 3), none), some (.inl (0, 3), none), some (.inl ((-1), 2), none)], [], [], []), [(0, (0, 0, 0), 0), (2, (1, 3, 0), (-1)), (0, (0, 0, 0), 0)])]) (N := 3) (fuel := 28) hIQ (List.forall_mem_cons.mpr ⟨qk_550 l, fun _ h => absurd h List.not_mem_nil⟩) (by decide +kernel)
def kq_552 : ek := (174, [.inr 86, .inl (0, 3), .inl (0, 1)], [], [], [(some (.inl (1, 1)), []), (some (.inl (0, 0)), [])], 0, 0)
/-- LoadsAheadModel gives -/
theorem qk_552 (l : Launch) : ek_ok l tQ iQ kq_552 := ek_good_ok (sp := sQ) (K := []) (SP := []) (HS := []) (N := 0) (fuel := 38) hIQ (fun _ h => absurd h List.not_mem_nil) (by decide +kernel)
def kq_553 : ek := (173, [.inr 86, .inl (0, 3), .inl (0, 1)], [], [], [(some (.inl (0, 2)), []), (some (.inl ((-1), (-1))), [])], 1, 22)
/-- LoadsAheadModel giverOf -/
theorem qk_553 (l : Launch) : ek_ok l tQ iQ kq_553 := ek_good_ok (sp := sQ) (K := [kq_552]) (SP := []) (HS := [((4, [some (.inr 86, none), some (.inl (0, 3), none), some (.inl (0, 1), none), some (.inl ((-1), 2), none)], [], [], []), [(0, (0, 0, 0), 0), (2, (1, 3, 0), (-1)), (0, (0, 0, 0), 0)])]) (N := 3) (fuel := 28) hIQ (List.forall_mem_cons.mpr ⟨qk_552 l, fun _ h => absurd h List.not_mem_nil⟩) (by decide +kernel)
def kq_554 : ek := (174, [.inr 86, .inl (0, 3), .inl (0, 0)], [], [], [(some (.inl (1, 1)), []), (some (.inl (0, 0)), [])], 0, 0)
/-- LoadsAheadModel gives -/
theorem qk_554 (l : Launch) : ek_ok l tQ iQ kq_554 := ek_good_ok (sp := sQ) (K := []) (SP := []) (HS := []) (N := 0) (fuel := 38) hIQ (fun _ h => absurd h List.not_mem_nil) (by decide +kernel)
def kq_555 : ek := (173, [.inr 86, .inl (0, 3), .inl (0, 0)], [], [], [(some (.inl (0, 2)), []), (some (.inl ((-1), (-1))), [])], 1, 22)
/-- LoadsAheadModel giverOf -/
theorem qk_555 (l : Launch) : ek_ok l tQ iQ kq_555 := ek_good_ok (sp := sQ) (K := [kq_554]) (SP := []) (HS := [((4, [some (.inr 86, none), some (.inl (0, 3), none), some (.inl (0, 0), none), some (.inl ((-1), 2), none)], [], [], []), [(0, (0, 0, 0), 0), (2, (1, 3, 0), (-1)), (0, (0, 0, 0), 0)])]) (N := 3) (fuel := 28) hIQ (List.forall_mem_cons.mpr ⟨qk_554 l, fun _ h => absurd h List.not_mem_nil⟩) (by decide +kernel)
def kq_556 : ek := (199, [.inr 86, .inl (0, 3)], [], [], [(some (.inl (0, 0)), []), (some (.inl (1, 1)), [])], 0, 0)
/-- LoadsAheadModel areStoresDone -/
theorem qk_556 (l : Launch) : ek_ok l tQ iQ kq_556 := ek_good_ok (sp := sQ) (K := []) (SP := []) (HS := [((2, [some (.inr 86, none), some (.inl (0, 3), none), some (.inl (0, 3), none)], [], [], []), [(0, (0, 0, 0), 0), (1, (1, 2, 0), 3), (0, (0, 0, 0), 0)])]) (N := 3) (fuel := 44) hIQ (fun _ h => absurd h List.not_mem_nil) (by decide +kernel)
def kq_557 : ek := (198, [.inr 86, .inl (0, 3)], [], [], [(some (.inl (0, 0)), []), (some (.inl (1, 1)), [])], 1, 22)
/-- LoadsAheadModel isKeptBack -/
theorem qk_557 (l : Launch) : ek_ok l tQ iQ kq_557 := ek_good_ok (sp := sQ) (K := [kq_556]) (SP := []) (HS := [((47, [some (.inr 86, none), some (.inl (0, 3), none), some (.inl ((-1), 2), none)], [], [], []), [(0, (0, 0, 0), 0), (2, (1, 2, 0), (-1)), (0, (0, 0, 0), 0)])]) (N := 3) (fuel := 60) hIQ (List.forall_mem_cons.mpr ⟨qk_556 l, fun _ h => absurd h List.not_mem_nil⟩) (by decide +kernel)
def kq_558 : ek := (172, [.inr 86, .inl (0, 7), .inl (0, 7)], [], [], [(some (.inl (1, 1)), []), (some (.inl (0, 0)), [])], 0, 0)
/-- LoadsAheadModel doesRead -/
theorem qk_558 (l : Launch) : ek_ok l tQ iQ kq_558 := ek_good_ok (sp := sQ) (K := []) (SP := []) (HS := []) (N := 0) (fuel := 48) hIQ (fun _ h => absurd h List.not_mem_nil) (by decide +kernel)
def kq_559 : ek := (197, [.inr 86, .inl (0, 7)], [], [], [(some (.inl (0, 0)), []), (some (.inl (1, 1)), [])], 2, 45)
/-- LoadsAheadModel areSourcesDone -/
theorem qk_559 (l : Launch) : ek_ok l tQ iQ kq_559 := ek_good_ok (sp := sQ) (K := [kq_558, kq_499]) (SP := []) (HS := [((2, [some (.inr 86, none), some (.inl (0, 7), none), some (.inl (0, 8), none), none], [], [], []), [(0, (0, 0, 0), 0), (1, (1, 2, 0), 8), (0, (0, 0, 0), 0)])]) (N := 3) (fuel := 60) hIQ (List.forall_mem_cons.mpr ⟨qk_558 l, List.forall_mem_cons.mpr ⟨qk_499 l, fun _ h => absurd h List.not_mem_nil⟩⟩) (by decide +kernel)
def kq_560 : ek := (172, [.inr 86, .inl (0, 7), .inl (0, 0)], [], [], [(some (.inl (1, 1)), []), (some (.inl (0, 0)), [])], 0, 0)
/-- LoadsAheadModel doesRead -/
theorem qk_560 (l : Launch) : ek_ok l tQ iQ kq_560 := ek_good_ok (sp := sQ) (K := []) (SP := []) (HS := []) (N := 0) (fuel := 48) hIQ (fun _ h => absurd h List.not_mem_nil) (by decide +kernel)
def kq_561 : ek := (172, [.inr 86, .inl (0, 7), .inl (0, 1)], [], [], [(some (.inl (1, 1)), []), (some (.inl (0, 0)), [])], 0, 0)
/-- LoadsAheadModel doesRead -/
theorem qk_561 (l : Launch) : ek_ok l tQ iQ kq_561 := ek_good_ok (sp := sQ) (K := []) (SP := []) (HS := []) (N := 0) (fuel := 48) hIQ (fun _ h => absurd h List.not_mem_nil) (by decide +kernel)
def kq_562 : ek := (172, [.inr 86, .inl (0, 7), .inl (0, 3)], [], [], [(some (.inl (1, 1)), []), (some (.inl (0, 0)), [])], 0, 0)
/-- LoadsAheadModel doesRead -/
theorem qk_562 (l : Launch) : ek_ok l tQ iQ kq_562 := ek_good_ok (sp := sQ) (K := []) (SP := []) (HS := []) (N := 0) (fuel := 48) hIQ (fun _ h => absurd h List.not_mem_nil) (by decide +kernel)
def kq_563 : ek := (174, [.inr 86, .inl (0, 7), .inl (0, 3)], [], [], [(some (.inl (1, 1)), []), (some (.inl (0, 0)), [])], 0, 0)
/-- LoadsAheadModel gives -/
theorem qk_563 (l : Launch) : ek_ok l tQ iQ kq_563 := ek_good_ok (sp := sQ) (K := []) (SP := []) (HS := []) (N := 0) (fuel := 38) hIQ (fun _ h => absurd h List.not_mem_nil) (by decide +kernel)
def kq_564 : ek := (173, [.inr 86, .inl (0, 7), .inl (0, 3)], [], [], [(some (.inl (0, 6)), []), (some (.inl ((-1), (-1))), [])], 1, 22)
/-- LoadsAheadModel giverOf -/
theorem qk_564 (l : Launch) : ek_ok l tQ iQ kq_564 := ek_good_ok (sp := sQ) (K := [kq_563]) (SP := []) (HS := [((4, [some (.inr 86, none), some (.inl (0, 7), none), some (.inl (0, 3), none), some (.inl ((-1), 6), none)], [], [], []), [(0, (0, 0, 0), 0), (2, (1, 3, 0), (-1)), (0, (0, 0, 0), 0)])]) (N := 3) (fuel := 28) hIQ (List.forall_mem_cons.mpr ⟨qk_563 l, fun _ h => absurd h List.not_mem_nil⟩) (by decide +kernel)
def kq_565 : ek := (174, [.inr 86, .inl (0, 7), .inl (0, 1)], [], [], [(some (.inl (1, 1)), []), (some (.inl (0, 0)), [])], 0, 0)
/-- LoadsAheadModel gives -/
theorem qk_565 (l : Launch) : ek_ok l tQ iQ kq_565 := ek_good_ok (sp := sQ) (K := []) (SP := []) (HS := []) (N := 0) (fuel := 38) hIQ (fun _ h => absurd h List.not_mem_nil) (by decide +kernel)
def kq_566 : ek := (173, [.inr 86, .inl (0, 7), .inl (0, 1)], [], [], [(some (.inl (0, 6)), []), (some (.inl ((-1), (-1))), [])], 1, 22)
/-- LoadsAheadModel giverOf -/
theorem qk_566 (l : Launch) : ek_ok l tQ iQ kq_566 := ek_good_ok (sp := sQ) (K := [kq_565]) (SP := []) (HS := [((4, [some (.inr 86, none), some (.inl (0, 7), none), some (.inl (0, 1), none), some (.inl ((-1), 6), none)], [], [], []), [(0, (0, 0, 0), 0), (2, (1, 3, 0), (-1)), (0, (0, 0, 0), 0)])]) (N := 3) (fuel := 28) hIQ (List.forall_mem_cons.mpr ⟨qk_565 l, fun _ h => absurd h List.not_mem_nil⟩) (by decide +kernel)
def kq_567 : ek := (174, [.inr 86, .inl (0, 7), .inl (0, 0)], [], [], [(some (.inl (1, 1)), []), (some (.inl (0, 0)), [])], 0, 0)
/-- LoadsAheadModel gives -/
theorem qk_567 (l : Launch) : ek_ok l tQ iQ kq_567 := ek_good_ok (sp := sQ) (K := []) (SP := []) (HS := []) (N := 0) (fuel := 38) hIQ (fun _ h => absurd h List.not_mem_nil) (by decide +kernel)
def kq_568 : ek := (173, [.inr 86, .inl (0, 7), .inl (0, 0)], [], [], [(some (.inl (0, 6)), []), (some (.inl ((-1), (-1))), [])], 1, 22)
/-- LoadsAheadModel giverOf -/
theorem qk_568 (l : Launch) : ek_ok l tQ iQ kq_568 := ek_good_ok (sp := sQ) (K := [kq_567]) (SP := []) (HS := [((4, [some (.inr 86, none), some (.inl (0, 7), none), some (.inl (0, 0), none), some (.inl ((-1), 6), none)], [], [], []), [(0, (0, 0, 0), 0), (2, (1, 3, 0), (-1)), (0, (0, 0, 0), 0)])]) (N := 3) (fuel := 28) hIQ (List.forall_mem_cons.mpr ⟨qk_567 l, fun _ h => absurd h List.not_mem_nil⟩) (by decide +kernel)
def kq_569 : ek := (199, [.inr 86, .inl (0, 7)], [], [], [(some (.inl (0, 0)), []), (some (.inl (1, 1)), [])], 0, 0)
/-- LoadsAheadModel areStoresDone -/
theorem qk_569 (l : Launch) : ek_ok l tQ iQ kq_569 := ek_good_ok (sp := sQ) (K := []) (SP := []) (HS := [((2, [some (.inr 86, none), some (.inl (0, 7), none), some (.inl (0, 7), none)], [], [], []), [(0, (0, 0, 0), 0), (1, (1, 2, 0), 7), (0, (0, 0, 0), 0)])]) (N := 3) (fuel := 44) hIQ (fun _ h => absurd h List.not_mem_nil) (by decide +kernel)
def kq_570 : ek := (198, [.inr 86, .inl (0, 7)], [], [], [(some (.inl (0, 0)), []), (some (.inl (1, 1)), [])], 1, 22)
/-- LoadsAheadModel isKeptBack -/
theorem qk_570 (l : Launch) : ek_ok l tQ iQ kq_570 := ek_good_ok (sp := sQ) (K := [kq_569]) (SP := []) (HS := [((47, [some (.inr 86, none), some (.inl (0, 7), none), some (.inl ((-1), 6), none)], [], [], []), [(0, (0, 0, 0), 0), (2, (1, 2, 0), (-1)), (0, (0, 0, 0), 0)])]) (N := 3) (fuel := 60) hIQ (List.forall_mem_cons.mpr ⟨qk_569 l, fun _ h => absurd h List.not_mem_nil⟩) (by decide +kernel)
def kq_571 : ek := (172, [.inr 86, .inl (0, 15), .inl (0, 7)], [], [], [(some (.inl (1, 1)), []), (some (.inl (0, 0)), [])], 0, 0)
/-- LoadsAheadModel doesRead -/
theorem qk_571 (l : Launch) : ek_ok l tQ iQ kq_571 := ek_good_ok (sp := sQ) (K := []) (SP := []) (HS := []) (N := 0) (fuel := 48) hIQ (fun _ h => absurd h List.not_mem_nil) (by decide +kernel)
def kq_572 : ek := (197, [.inr 86, .inl (0, 15)], [], [], [(some (.inl (0, 0)), []), (some (.inl (1, 1)), [])], 2, 45)
/-- LoadsAheadModel areSourcesDone -/
theorem qk_572 (l : Launch) : ek_ok l tQ iQ kq_572 := ek_good_ok (sp := sQ) (K := [kq_571, kq_510]) (SP := []) (HS := [((2, [some (.inr 86, none), some (.inl (0, 15), none), some (.inl (0, 8), none), none], [], [], []), [(0, (0, 0, 0), 0), (1, (1, 2, 0), 8), (0, (0, 0, 0), 0)])]) (N := 3) (fuel := 60) hIQ (List.forall_mem_cons.mpr ⟨qk_571 l, List.forall_mem_cons.mpr ⟨qk_510 l, fun _ h => absurd h List.not_mem_nil⟩⟩) (by decide +kernel)
def kq_573 : ek := (172, [.inr 86, .inl (0, 15), .inl (0, 0)], [], [], [(some (.inl (1, 1)), []), (some (.inl (0, 0)), [])], 0, 0)
/-- LoadsAheadModel doesRead -/
theorem qk_573 (l : Launch) : ek_ok l tQ iQ kq_573 := ek_good_ok (sp := sQ) (K := []) (SP := []) (HS := []) (N := 0) (fuel := 48) hIQ (fun _ h => absurd h List.not_mem_nil) (by decide +kernel)
def kq_574 : ek := (172, [.inr 86, .inl (0, 15), .inl (0, 1)], [], [], [(some (.inl (1, 1)), []), (some (.inl (0, 0)), [])], 0, 0)
/-- LoadsAheadModel doesRead -/
theorem qk_574 (l : Launch) : ek_ok l tQ iQ kq_574 := ek_good_ok (sp := sQ) (K := []) (SP := []) (HS := []) (N := 0) (fuel := 48) hIQ (fun _ h => absurd h List.not_mem_nil) (by decide +kernel)
def kq_575 : ek := (172, [.inr 86, .inl (0, 15), .inl (0, 3)], [], [], [(some (.inl (1, 1)), []), (some (.inl (0, 0)), [])], 0, 0)
/-- LoadsAheadModel doesRead -/
theorem qk_575 (l : Launch) : ek_ok l tQ iQ kq_575 := ek_good_ok (sp := sQ) (K := []) (SP := []) (HS := []) (N := 0) (fuel := 48) hIQ (fun _ h => absurd h List.not_mem_nil) (by decide +kernel)
def kq_576 : ek := (174, [.inr 86, .inl (0, 15), .inl (0, 3)], [], [], [(some (.inl (1, 1)), []), (some (.inl (0, 0)), [])], 0, 0)
/-- LoadsAheadModel gives -/
theorem qk_576 (l : Launch) : ek_ok l tQ iQ kq_576 := ek_good_ok (sp := sQ) (K := []) (SP := []) (HS := []) (N := 0) (fuel := 38) hIQ (fun _ h => absurd h List.not_mem_nil) (by decide +kernel)
def kq_577 : ek := (173, [.inr 86, .inl (0, 15), .inl (0, 3)], [], [], [(some (.inl (0, 14)), []), (some (.inl ((-1), (-1))), [])], 1, 22)
/-- LoadsAheadModel giverOf -/
theorem qk_577 (l : Launch) : ek_ok l tQ iQ kq_577 := ek_good_ok (sp := sQ) (K := [kq_576]) (SP := []) (HS := [((4, [some (.inr 86, none), some (.inl (0, 15), none), some (.inl (0, 3), none), some (.inl ((-1), 14), none)], [], [], []), [(0, (0, 0, 0), 0), (2, (1, 3, 0), (-1)), (0, (0, 0, 0), 0)])]) (N := 3) (fuel := 28) hIQ (List.forall_mem_cons.mpr ⟨qk_576 l, fun _ h => absurd h List.not_mem_nil⟩) (by decide +kernel)
def kq_578 : ek := (174, [.inr 86, .inl (0, 15), .inl (0, 1)], [], [], [(some (.inl (1, 1)), []), (some (.inl (0, 0)), [])], 0, 0)
/-- LoadsAheadModel gives -/
theorem qk_578 (l : Launch) : ek_ok l tQ iQ kq_578 := ek_good_ok (sp := sQ) (K := []) (SP := []) (HS := []) (N := 0) (fuel := 38) hIQ (fun _ h => absurd h List.not_mem_nil) (by decide +kernel)
def kq_579 : ek := (173, [.inr 86, .inl (0, 15), .inl (0, 1)], [], [], [(some (.inl (0, 14)), []), (some (.inl ((-1), (-1))), [])], 1, 22)
/-- LoadsAheadModel giverOf -/
theorem qk_579 (l : Launch) : ek_ok l tQ iQ kq_579 := ek_good_ok (sp := sQ) (K := [kq_578]) (SP := []) (HS := [((4, [some (.inr 86, none), some (.inl (0, 15), none), some (.inl (0, 1), none), some (.inl ((-1), 14), none)], [], [], []), [(0, (0, 0, 0), 0), (2, (1, 3, 0), (-1)), (0, (0, 0, 0), 0)])]) (N := 3) (fuel := 28) hIQ (List.forall_mem_cons.mpr ⟨qk_578 l, fun _ h => absurd h List.not_mem_nil⟩) (by decide +kernel)
def kq_580 : ek := (174, [.inr 86, .inl (0, 15), .inl (0, 0)], [], [], [(some (.inl (1, 1)), []), (some (.inl (0, 0)), [])], 0, 0)
/-- LoadsAheadModel gives -/
theorem qk_580 (l : Launch) : ek_ok l tQ iQ kq_580 := ek_good_ok (sp := sQ) (K := []) (SP := []) (HS := []) (N := 0) (fuel := 38) hIQ (fun _ h => absurd h List.not_mem_nil) (by decide +kernel)
def kq_581 : ek := (173, [.inr 86, .inl (0, 15), .inl (0, 0)], [], [], [(some (.inl (0, 14)), []), (some (.inl ((-1), (-1))), [])], 1, 22)
/-- LoadsAheadModel giverOf -/
theorem qk_581 (l : Launch) : ek_ok l tQ iQ kq_581 := ek_good_ok (sp := sQ) (K := [kq_580]) (SP := []) (HS := [((4, [some (.inr 86, none), some (.inl (0, 15), none), some (.inl (0, 0), none), some (.inl ((-1), 14), none)], [], [], []), [(0, (0, 0, 0), 0), (2, (1, 3, 0), (-1)), (0, (0, 0, 0), 0)])]) (N := 3) (fuel := 28) hIQ (List.forall_mem_cons.mpr ⟨qk_580 l, fun _ h => absurd h List.not_mem_nil⟩) (by decide +kernel)
def kq_582 : ek := (199, [.inr 86, .inl (0, 15)], [], [], [(some (.inl (0, 0)), []), (some (.inl (1, 1)), [])], 0, 0)
/-- LoadsAheadModel areStoresDone -/
theorem qk_582 (l : Launch) : ek_ok l tQ iQ kq_582 := ek_good_ok (sp := sQ) (K := []) (SP := []) (HS := [((2, [some (.inr 86, none), some (.inl (0, 15), none), some (.inl (0, 15), none)], [], [], []), [(0, (0, 0, 0), 0), (1, (1, 2, 0), 15), (0, (0, 0, 0), 0)])]) (N := 3) (fuel := 44) hIQ (fun _ h => absurd h List.not_mem_nil) (by decide +kernel)
