def kq_572 : ek := (172, [.inr 86, .inl (0, 7), .inl (0, 3)], [], [], [(some (.inl (1, 1)), []), (some (.inl (0, 0)), [])], 0, 0)
/-- LoadsAheadModel doesRead -/
theorem qk_572 (l : Launch) : ek_ok l tQ iQ kq_572 := ek_good_ok (sp := sQ) (K := []) (SP := []) (HS := []) (N := 0) (fuel := 48) hIQ (fun _ h => absurd h List.not_mem_nil) (by decide +kernel)
def kq_573 : ek := (174, [.inr 86, .inl (0, 7), .inl (0, 3)], [], [], [(some (.inl (1, 1)), []), (some (.inl (0, 0)), [])], 0, 0)
/-- LoadsAheadModel gives -/
theorem qk_573 (l : Launch) : ek_ok l tQ iQ kq_573 := ek_good_ok (sp := sQ) (K := []) (SP := []) (HS := []) (N := 0) (fuel := 38) hIQ (fun _ h => absurd h List.not_mem_nil) (by decide +kernel)
def kq_574 : ek := (173, [.inr 86, .inl (0, 7), .inl (0, 3)], [], [], [(some (.inl (0, 6)), []), (some (.inl ((-1), (-1))), [])], 1, 22)
/-- LoadsAheadModel giverOf -/
theorem qk_574 (l : Launch) : ek_ok l tQ iQ kq_574 := ek_good_ok (sp := sQ) (K := [kq_573]) (SP := []) (HS := [((4, [some (.inr 86, none), some (.inl (0, 7), none), some (.inl (0, 3), none), some (.inl ((-1), 6), none)], [], [], []), [(0, (0, 0, 0), 0), (2, (1, 3, 0), (-1)), (0, (0, 0, 0), 0)])]) (N := 3) (fuel := 28) hIQ (List.forall_mem_cons.mpr ⟨qk_573 l, fun _ h => absurd h List.not_mem_nil⟩) (by decide +kernel)
def kq_575 : ek := (174, [.inr 86, .inl (0, 7), .inl (0, 1)], [], [], [(some (.inl (1, 1)), []), (some (.inl (0, 0)), [])], 0, 0)
/-- LoadsAheadModel gives -/
theorem qk_575 (l : Launch) : ek_ok l tQ iQ kq_575 := ek_good_ok (sp := sQ) (K := []) (SP := []) (HS := []) (N := 0) (fuel := 38) hIQ (fun _ h => absurd h List.not_mem_nil) (by decide +kernel)
def kq_576 : ek := (173, [.inr 86, .inl (0, 7), .inl (0, 1)], [], [], [(some (.inl (0, 6)), []), (some (.inl ((-1), (-1))), [])], 1, 22)
/-- LoadsAheadModel giverOf -/
theorem qk_576 (l : Launch) : ek_ok l tQ iQ kq_576 := ek_good_ok (sp := sQ) (K := [kq_575]) (SP := []) (HS := [((4, [some (.inr 86, none), some (.inl (0, 7), none), some (.inl (0, 1), none), some (.inl ((-1), 6), none)], [], [], []), [(0, (0, 0, 0), 0), (2, (1, 3, 0), (-1)), (0, (0, 0, 0), 0)])]) (N := 3) (fuel := 28) hIQ (List.forall_mem_cons.mpr ⟨qk_575 l, fun _ h => absurd h List.not_mem_nil⟩) (by decide +kernel)
def kq_577 : ek := (174, [.inr 86, .inl (0, 7), .inl (0, 0)], [], [], [(some (.inl (1, 1)), []), (some (.inl (0, 0)), [])], 0, 0)
/-- LoadsAheadModel gives -/
theorem qk_577 (l : Launch) : ek_ok l tQ iQ kq_577 := ek_good_ok (sp := sQ) (K := []) (SP := []) (HS := []) (N := 0) (fuel := 38) hIQ (fun _ h => absurd h List.not_mem_nil) (by decide +kernel)
def kq_578 : ek := (173, [.inr 86, .inl (0, 7), .inl (0, 0)], [], [], [(some (.inl (0, 6)), []), (some (.inl ((-1), (-1))), [])], 1, 22)
/-- LoadsAheadModel giverOf -/
theorem qk_578 (l : Launch) : ek_ok l tQ iQ kq_578 := ek_good_ok (sp := sQ) (K := [kq_577]) (SP := []) (HS := [((4, [some (.inr 86, none), some (.inl (0, 7), none), some (.inl (0, 0), none), some (.inl ((-1), 6), none)], [], [], []), [(0, (0, 0, 0), 0), (2, (1, 3, 0), (-1)), (0, (0, 0, 0), 0)])]) (N := 3) (fuel := 28) hIQ (List.forall_mem_cons.mpr ⟨qk_577 l, fun _ h => absurd h List.not_mem_nil⟩) (by decide +kernel)
def kq_579 : ek := (199, [.inr 86, .inl (0, 7)], [], [], [(some (.inl (0, 0)), []), (some (.inl (1, 1)), [])], 0, 0)
/-- LoadsAheadModel areStoresDone -/
theorem qk_579 (l : Launch) : ek_ok l tQ iQ kq_579 := ek_good_ok (sp := sQ) (K := []) (SP := []) (HS := [((2, [some (.inr 86, none), some (.inl (0, 7), none), some (.inl (0, 7), none)], [], [], []), [(0, (0, 0, 0), 0), (1, (1, 2, 0), 7), (0, (0, 0, 0), 0)])]) (N := 3) (fuel := 44) hIQ (fun _ h => absurd h List.not_mem_nil) (by decide +kernel)
def kq_580 : ek := (198, [.inr 86, .inl (0, 7)], [], [], [(some (.inl (0, 0)), []), (some (.inl (1, 1)), [])], 1, 22)
/-- LoadsAheadModel isKeptBack -/
theorem qk_580 (l : Launch) : ek_ok l tQ iQ kq_580 := ek_good_ok (sp := sQ) (K := [kq_579]) (SP := []) (HS := [((47, [some (.inr 86, none), some (.inl (0, 7), none), some (.inl ((-1), 6), none)], [], [], []), [(0, (0, 0, 0), 0), (2, (1, 2, 0), (-1)), (0, (0, 0, 0), 0)])]) (N := 3) (fuel := 60) hIQ (List.forall_mem_cons.mpr ⟨qk_579 l, fun _ h => absurd h List.not_mem_nil⟩) (by decide +kernel)
def kq_581 : ek := (172, [.inr 86, .inl (0, 15), .inl (0, 7)], [], [], [(some (.inl (1, 1)), []), (some (.inl (0, 0)), [])], 0, 0)
/-- LoadsAheadModel doesRead -/
theorem qk_581 (l : Launch) : ek_ok l tQ iQ kq_581 := ek_good_ok (sp := sQ) (K := []) (SP := []) (HS := []) (N := 0) (fuel := 48) hIQ (fun _ h => absurd h List.not_mem_nil) (by decide +kernel)
def kq_582 : ek := (197, [.inr 86, .inl (0, 15)], [], [], [(some (.inl (0, 0)), []), (some (.inl (1, 1)), [])], 2, 45)
/-- LoadsAheadModel areSourcesDone -/
theorem qk_582 (l : Launch) : ek_ok l tQ iQ kq_582 := ek_good_ok (sp := sQ) (K := [kq_581, kq_520]) (SP := []) (HS := [((2, [some (.inr 86, none), some (.inl (0, 15), none), some (.inl (0, 8), none), none], [], [], []), [(0, (0, 0, 0), 0), (1, (1, 2, 0), 8), (0, (0, 0, 0), 0)])]) (N := 3) (fuel := 60) hIQ (List.forall_mem_cons.mpr ⟨qk_581 l, List.forall_mem_cons.mpr ⟨qk_520 l, fun _ h => absurd h List.not_mem_nil⟩⟩) (by decide +kernel)
def kq_583 : ek := (172, [.inr 86, .inl (0, 15), .inl (0, 0)], [], [], [(some (.inl (1, 1)), []), (some (.inl (0, 0)), [])], 0, 0)
/-- LoadsAheadModel doesRead -/
theorem qk_583 (l : Launch) : ek_ok l tQ iQ kq_583 := ek_good_ok (sp := sQ) (K := []) (SP := []) (HS := []) (N := 0) (fuel := 48) hIQ (fun _ h => absurd h List.not_mem_nil) (by decide +kernel)
def kq_584 : ek := (172, [.inr 86, .inl (0, 15), .inl (0, 1)], [], [], [(some (.inl (1, 1)), []), (some (.inl (0, 0)), [])], 0, 0)
/-- LoadsAheadModel doesRead -/
theorem qk_584 (l : Launch) : ek_ok l tQ iQ kq_584 := ek_good_ok (sp := sQ) (K := []) (SP := []) (HS := []) (N := 0) (fuel := 48) hIQ (fun _ h => absurd h List.not_mem_nil) (by decide +kernel)
def kq_585 : ek := (172, [.inr 86, .inl (0, 15), .inl (0, 3)], [], [], [(some (.inl (1, 1)), []), (some (.inl (0, 0)), [])], 0, 0)
/-- LoadsAheadModel doesRead -/
theorem qk_585 (l : Launch) : ek_ok l tQ iQ kq_585 := ek_good_ok (sp := sQ) (K := []) (SP := []) (HS := []) (N := 0) (fuel := 48) hIQ (fun _ h => absurd h List.not_mem_nil) (by decide +kernel)
def kq_586 : ek := (174, [.inr 86, .inl (0, 15), .inl (0, 3)], [], [], [(some (.inl (1, 1)), []), (some (.inl (0, 0)), [])], 0, 0)
/-- LoadsAheadModel gives -/
theorem qk_586 (l : Launch) : ek_ok l tQ iQ kq_586 := ek_good_ok (sp := sQ) (K := []) (SP := []) (HS := []) (N := 0) (fuel := 38) hIQ (fun _ h => absurd h List.not_mem_nil) (by decide +kernel)
def kq_587 : ek := (173, [.inr 86, .inl (0, 15), .inl (0, 3)], [], [], [(some (.inl (0, 14)), []), (some (.inl ((-1), (-1))), [])], 1, 22)
/-- LoadsAheadModel giverOf -/
theorem qk_587 (l : Launch) : ek_ok l tQ iQ kq_587 := ek_good_ok (sp := sQ) (K := [kq_586]) (SP := []) (HS := [((4, [some (.inr 86, none), some (.inl (0, 15), none), some (.inl (0, 3), none), some (.inl ((-1), 14), none)], [], [], []), [(0, (0, 0, 0), 0), (2, (1, 3, 0), (-1)), (0, (0, 0, 0), 0)])]) (N := 3) (fuel := 28) hIQ (List.forall_mem_cons.mpr ⟨qk_586 l, fun _ h => absurd h List.not_mem_nil⟩) (by decide +kernel)
def kq_588 : ek := (174, [.inr 86, .inl (0, 15), .inl (0, 1)], [], [], [(some (.inl (1, 1)), []), (some (.inl (0, 0)), [])], 0, 0)
/-- LoadsAheadModel gives -/
theorem qk_588 (l : Launch) : ek_ok l tQ iQ kq_588 := ek_good_ok (sp := sQ) (K := []) (SP := []) (HS := []) (N := 0) (fuel := 38) hIQ (fun _ h => absurd h List.not_mem_nil) (by decide +kernel)
def kq_589 : ek := (173, [.inr 86, .inl (0, 15), .inl (0, 1)], [], [], [(some (.inl (0, 14)), []), (some (.inl ((-1), (-1))), [])], 1, 22)
/-- LoadsAheadModel giverOf -/
theorem qk_589 (l : Launch) : ek_ok l tQ iQ kq_589 := ek_good_ok (sp := sQ) (K := [kq_588]) (SP := []) (HS := [((4, [some (.inr 86, none), some (.inl (0, 15), none), some (.inl (0, 1), none), some (.inl ((-1), 14), none)], [], [], []), [(0, (0, 0, 0), 0), (2, (1, 3, 0), (-1)), (0, (0, 0, 0), 0)])]) (N := 3) (fuel := 28) hIQ (List.forall_mem_cons.mpr ⟨qk_588 l, fun _ h => absurd h List.not_mem_nil⟩) (by decide +kernel)
def kq_590 : ek := (174, [.inr 86, .inl (0, 15), .inl (0, 0)], [], [], [(some (.inl (1, 1)), []), (some (.inl (0, 0)), [])], 0, 0)
/-- LoadsAheadModel gives -/
theorem qk_590 (l : Launch) : ek_ok l tQ iQ kq_590 := ek_good_ok (sp := sQ) (K := []) (SP := []) (HS := []) (N := 0) (fuel := 38) hIQ (fun _ h => absurd h List.not_mem_nil) (by decide +kernel)
def kq_591 : ek := (173, [.inr 86, .inl (0, 15), .inl (0, 0)], [], [], [(some (.inl (0, 14)), []), (some (.inl ((-1), (-1))), [])], 1, 22)
/-- LoadsAheadModel giverOf -/
theorem qk_591 (l : Launch) : ek_ok l tQ iQ kq_591 := ek_good_ok (sp := sQ) (K := [kq_590]) (SP := []) (HS := [((4, [some (.inr 86, none), some (.inl (0, 15), none), some (.inl (0, 0), none), some (.inl ((-1), 14), none)], [], [], []), [(0, (0, 0, 0), 0), (2, (1, 3, 0), (-1)), (0, (0, 0, 0), 0)])]) (N := 3) (fuel := 28) hIQ (List.forall_mem_cons.mpr ⟨qk_590 l, fun _ h => absurd h List.not_mem_nil⟩) (by decide +kernel)
def kq_592 : ek := (199, [.inr 86, .inl (0, 15)], [], [], [(some (.inl (0, 0)), []), (some (.inl (1, 1)), [])], 0, 0)
/-- LoadsAheadModel areStoresDone -/
theorem qk_592 (l : Launch) : ek_ok l tQ iQ kq_592 := ek_good_ok (sp := sQ) (K := []) (SP := []) (HS := [((2, [some (.inr 86, none), some (.inl (0, 15), none), some (.inl (0, 15), none)], [], [], []), [(0, (0, 0, 0), 0), (1, (1, 2, 0), 15), (0, (0, 0, 0), 0)])]) (N := 3) (fuel := 44) hIQ (fun _ h => absurd h List.not_mem_nil) (by decide +kernel)
def kq_593 : ek := (198, [.inr 86, .inl (0, 15)], [], [], [(some (.inl (0, 0)), []), (some (.inl (1, 1)), [])], 1, 22)
/-- LoadsAheadModel isKeptBack -/
theorem qk_593 (l : Launch) : ek_ok l tQ iQ kq_593 := ek_good_ok (sp := sQ) (K := [kq_592]) (SP := []) (HS := [((47, [some (.inr 86, none), some (.inl (0, 15), none), some (.inl ((-1), 14), none)], [], [], []), [(0, (0, 0, 0), 0), (2, (1, 2, 0), (-1)), (0, (0, 0, 0), 0)])]) (N := 3) (fuel := 60) hIQ (List.forall_mem_cons.mpr ⟨qk_592 l, fun _ h => absurd h List.not_mem_nil⟩) (by decide +kernel)
def kq_594 : ek := (172, [.inr 86, .inl (0, 19), .inl (0, 0)], [], [], [(some (.inl (1, 1)), []), (some (.inl (0, 0)), [])], 0, 0)
/-- LoadsAheadModel doesRead -/
theorem qk_594 (l : Launch) : ek_ok l tQ iQ kq_594 := ek_good_ok (sp := sQ) (K := []) (SP := []) (HS := []) (N := 0) (fuel := 48) hIQ (fun _ h => absurd h List.not_mem_nil) (by decide +kernel)
def kq_595 : ek := (172, [.inr 86, .inl (0, 19), .inl (0, 1)], [], [], [(some (.inl (1, 1)), []), (some (.inl (0, 0)), [])], 0, 0)
/-- LoadsAheadModel doesRead -/
theorem qk_595 (l : Launch) : ek_ok l tQ iQ kq_595 := ek_good_ok (sp := sQ) (K := []) (SP := []) (HS := []) (N := 0) (fuel := 48) hIQ (fun _ h => absurd h List.not_mem_nil) (by decide +kernel)
def kq_596 : ek := (172, [.inr 86, .inl (0, 19), .inl (0, 3)], [], [], [(some (.inl (1, 1)), []), (some (.inl (0, 0)), [])], 0, 0)
/-- LoadsAheadModel doesRead -/
theorem qk_596 (l : Launch) : ek_ok l tQ iQ kq_596 := ek_good_ok (sp := sQ) (K := []) (SP := []) (HS := []) (N := 0) (fuel := 48) hIQ (fun _ h => absurd h List.not_mem_nil) (by decide +kernel)
def kq_597 : ek := (174, [.inr 86, .inl (0, 19), .inl (0, 3)], [], [], [(some (.inl (1, 1)), []), (some (.inl (0, 0)), [])], 0, 0)
/-- LoadsAheadModel gives -/
theorem qk_597 (l : Launch) : ek_ok l tQ iQ kq_597 := ek_good_ok (sp := sQ) (K := []) (SP := []) (HS := []) (N := 0) (fuel := 38) hIQ (fun _ h => absurd h List.not_mem_nil) (by decide +kernel)
def kq_598 : ek := (173, [.inr 86, .inl (0, 19), .inl (0, 3)], [], [], [(some (.inl (0, 18)), []), (some (.inl ((-1), (-1))), [])], 1, 22)
/-- LoadsAheadModel giverOf -/
theorem qk_598 (l : Launch) : ek_ok l tQ iQ kq_598 := ek_good_ok (sp := sQ) (K := [kq_597]) (SP := []) (HS := [((4, [some (.inr 86, none), some (.inl (0, 19), none), some (.inl (0, 3), none), some (.inl ((-1), 18), none)], [], [], []), [(0, (0, 0, 0), 0), (2, (1, 3, 0), (-1)), (0, (0, 0, 0), 0)])]) (N := 3) (fuel := 28) hIQ (List.forall_mem_cons.mpr ⟨qk_597 l, fun _ h => absurd h List.not_mem_nil⟩) (by decide +kernel)
def kq_599 : ek := (174, [.inr 86, .inl (0, 19), .inl (0, 1)], [], [], [(some (.inl (1, 1)), []), (some (.inl (0, 0)), [])], 0, 0)
/-- LoadsAheadModel gives -/
theorem qk_599 (l : Launch) : ek_ok l tQ iQ kq_599 := ek_good_ok (sp := sQ) (K := []) (SP := []) (HS := []) (N := 0) (fuel := 38) hIQ (fun _ h => absurd h List.not_mem_nil) (by decide +kernel)
def kq_600 : ek := (173, [.inr 86, .inl (0, 19), .inl (0, 1)], [], [], [(some (.inl (0, 18)), []), (some (.inl ((-1), (-1))), [])], 1, 22)
/-- LoadsAheadModel giverOf -/
theorem qk_600 (l : Launch) : ek_ok l tQ iQ kq_600 := ek_good_ok (sp := sQ) (K := [kq_599]) (SP := []) (HS := [((4, [some (.inr 86, none), some (.inl (0, 19), none), some (.inl (0, 1), none), some (.inl ((-1), 18), none)], [], [], []), [(0, (0, 0, 0), 0), (2, (1, 3, 0), (-1)), (0, (0, 0, 0), 0)])]) (N := 3) (fuel := 28) hIQ (List.forall_mem_cons.mpr ⟨qk_599 l, fun _ h => absurd h List.not_mem_nil⟩) (by decide +kernel)
def kq_601 : ek := (174, [.inr 86, .inl (0, 19), .inl (0, 0)], [], [], [(some (.inl (1, 1)), []), (some (.inl (0, 0)), [])], 0, 0)
/-- LoadsAheadModel gives -/
theorem qk_601 (l : Launch) : ek_ok l tQ iQ kq_601 := ek_good_ok (sp := sQ) (K := []) (SP := []) (HS := []) (N := 0) (fuel := 38) hIQ (fun _ h => absurd h List.not_mem_nil) (by decide +kernel)
def kq_602 : ek := (173, [.inr 86, .inl (0, 19), .inl (0, 0)], [], [], [(some (.inl (0, 18)), []), (some (.inl ((-1), (-1))), [])], 1, 22)
/-- LoadsAheadModel giverOf -/
theorem qk_602 (l : Launch) : ek_ok l tQ iQ kq_602 := ek_good_ok (sp := sQ) (K := [kq_601]) (SP := []) (HS := [((4, [some (.inr 86, none), some (.inl (0, 19), none), some (.inl (0, 0), none), some (.inl ((-1), 18), none)], [], [], []), [(0, (0, 0, 0), 0), (2, (1, 3, 0), (-1)), (0, (0, 0, 0), 0)])]) (N := 3) (fuel := 28) hIQ (List.forall_mem_cons.mpr ⟨qk_601 l, fun _ h => absurd h List.not_mem_nil⟩) (by decide +kernel)
def kq_603 : ek := (185, [.inl ((-2147483648), 2147483647), .inl (0, 0)], [], [], [(some (.inl (0, 255)), [])], 0, 0)
/-- LoadsAheadModel byteOf -/
theorem qk_603 (l : Launch) : ek_ok l tQ iQ kq_603 := ek_good_ok (sp := sQ) (K := []) (SP := []) (HS := []) (N := 0) (fuel := 24) hIQ (fun _ h => absurd h List.not_mem_nil) (by decide +kernel)
def kq_604 : ek := (185, [.inl ((-2147483648), 2147483647), .inl (0, 1)], [], [], [(some (.inl (0, 255)), [])], 0, 0)
/-- LoadsAheadModel byteOf -/
theorem qk_604 (l : Launch) : ek_ok l tQ iQ kq_604 := ek_good_ok (sp := sQ) (K := []) (SP := []) (HS := []) (N := 0) (fuel := 24) hIQ (fun _ h => absurd h List.not_mem_nil) (by decide +kernel)
def kq_605 : ek := (185, [.inl ((-2147483648), 2147483647), .inl (0, 2)], [], [], [(some (.inl (0, 255)), [])], 0, 0)
/-- LoadsAheadModel byteOf -/
theorem qk_605 (l : Launch) : ek_ok l tQ iQ kq_605 := ek_good_ok (sp := sQ) (K := []) (SP := []) (HS := []) (N := 0) (fuel := 24) hIQ (fun _ h => absurd h List.not_mem_nil) (by decide +kernel)
def kq_606 : ek := (201, [.inr 86, .inl (0, 15), .inl (0, 0), .inl (0, 15)], [], [(109, 999)], [(none, [])], 0, 0)
/-- LoadsAheadModel feels -/
theorem qk_606 (l : Launch) : ek_ok l tQ iQ kq_606 := ek_good_ok (sp := sQ) (K := []) (SP := []) (HS := []) (N := 0) (fuel := 120) hIQ (fun _ h => absurd h List.not_mem_nil) (by decide +kernel)
def kq_609 : ek := (201, [.inr 86, .inl (0, 7), .inl (0, 0), .inl (0, 15)], [], [(109, 999)], [(none, [])], 0, 0)
/-- LoadsAheadModel feels -/
theorem qk_609 (l : Launch) : ek_ok l tQ iQ kq_609 := ek_good_ok (sp := sQ) (K := []) (SP := []) (HS := []) (N := 0) (fuel := 120) hIQ (fun _ h => absurd h List.not_mem_nil) (by decide +kernel)
def kq_612 : ek := (201, [.inr 86, .inl (0, 3), .inl (0, 0), .inl (0, 15)], [], [(109, 999)], [(none, [])], 0, 0)
/-- LoadsAheadModel feels -/
theorem qk_612 (l : Launch) : ek_ok l tQ iQ kq_612 := ek_good_ok (sp := sQ) (K := []) (SP := []) (HS := []) (N := 0) (fuel := 120) hIQ (fun _ h => absurd h List.not_mem_nil) (by decide +kernel)
def kq_615 : ek := (201, [.inr 86, .inl (0, 1), .inl (0, 0), .inl (0, 15)], [], [(109, 999)], [(none, [])], 0, 0)
/-- LoadsAheadModel feels -/
theorem qk_615 (l : Launch) : ek_ok l tQ iQ kq_615 := ek_good_ok (sp := sQ) (K := []) (SP := []) (HS := []) (N := 0) (fuel := 120) hIQ (fun _ h => absurd h List.not_mem_nil) (by decide +kernel)
def kq_619 : ek := (201, [.inr 86, .inl (0, 19), .inl (0, 1), .inl (0, 15)], [], [(109, 999)], [(none, [])], 0, 0)
/-- LoadsAheadModel feels -/
theorem qk_619 (l : Launch) : ek_ok l tQ iQ kq_619 := ek_good_ok (sp := sQ) (K := []) (SP := []) (HS := []) (N := 0) (fuel := 120) hIQ (fun _ h => absurd h List.not_mem_nil) (by decide +kernel)
def kq_621 : ek := (201, [.inr 86, .inl (0, 19), .inl (0, 1), .inl (0, 0)], [], [(109, 999)], [(none, [])], 0, 0)
/-- LoadsAheadModel feels -/
theorem qk_621 (l : Launch) : ek_ok l tQ iQ kq_621 := ek_good_ok (sp := sQ) (K := []) (SP := []) (HS := []) (N := 0) (fuel := 120) hIQ (fun _ h => absurd h List.not_mem_nil) (by decide +kernel)
def kq_629 : ek := (201, [.inr 86, .inl (0, 0), .inl (0, 1), .inl (0, 15)], [], [(109, 999)], [(none, [])], 0, 0)
/-- LoadsAheadModel feels -/
theorem qk_629 (l : Launch) : ek_ok l tQ iQ kq_629 := ek_good_ok (sp := sQ) (K := []) (SP := []) (HS := []) (N := 0) (fuel := 120) hIQ (fun _ h => absurd h List.not_mem_nil) (by decide +kernel)
def kq_631 : ek := (201, [.inr 86, .inl (0, 15), .inl (0, 1), .inl (0, 15)], [], [(109, 999)], [(none, [])], 0, 0)
/-- LoadsAheadModel feels -/
theorem qk_631 (l : Launch) : ek_ok l tQ iQ kq_631 := ek_good_ok (sp := sQ) (K := []) (SP := []) (HS := []) (N := 0) (fuel := 120) hIQ (fun _ h => absurd h List.not_mem_nil) (by decide +kernel)
def kq_633 : ek := (201, [.inr 86, .inl (0, 7), .inl (0, 1), .inl (0, 15)], [], [(109, 999)], [(none, [])], 0, 0)
/-- LoadsAheadModel feels -/
theorem qk_633 (l : Launch) : ek_ok l tQ iQ kq_633 := ek_good_ok (sp := sQ) (K := []) (SP := []) (HS := []) (N := 0) (fuel := 120) hIQ (fun _ h => absurd h List.not_mem_nil) (by decide +kernel)
def kq_635 : ek := (201, [.inr 86, .inl (0, 3), .inl (0, 1), .inl (0, 15)], [], [(109, 999)], [(none, [])], 0, 0)
/-- LoadsAheadModel feels -/
theorem qk_635 (l : Launch) : ek_ok l tQ iQ kq_635 := ek_good_ok (sp := sQ) (K := []) (SP := []) (HS := []) (N := 0) (fuel := 120) hIQ (fun _ h => absurd h List.not_mem_nil) (by decide +kernel)
def kq_637 : ek := (201, [.inr 86, .inl (0, 1), .inl (0, 1), .inl (0, 15)], [], [(109, 999)], [(none, [])], 0, 0)
/-- LoadsAheadModel feels -/
theorem qk_637 (l : Launch) : ek_ok l tQ iQ kq_637 := ek_good_ok (sp := sQ) (K := []) (SP := []) (HS := []) (N := 0) (fuel := 120) hIQ (fun _ h => absurd h List.not_mem_nil) (by decide +kernel)
def kq_640 : ek := (201, [.inr 86, .inl (0, 19), .inl (0, 3), .inl (0, 15)], [], [(109, 999)], [(none, [])], 0, 0)
/-- LoadsAheadModel feels -/
theorem qk_640 (l : Launch) : ek_ok l tQ iQ kq_640 := ek_good_ok (sp := sQ) (K := []) (SP := []) (HS := []) (N := 0) (fuel := 120) hIQ (fun _ h => absurd h List.not_mem_nil) (by decide +kernel)
def kq_642 : ek := (201, [.inr 86, .inl (0, 19), .inl (0, 3), .inl (0, 0)], [], [(109, 999)], [(none, [])], 0, 0)
/-- LoadsAheadModel feels -/
theorem qk_642 (l : Launch) : ek_ok l tQ iQ kq_642 := ek_good_ok (sp := sQ) (K := []) (SP := []) (HS := []) (N := 0) (fuel := 120) hIQ (fun _ h => absurd h List.not_mem_nil) (by decide +kernel)
