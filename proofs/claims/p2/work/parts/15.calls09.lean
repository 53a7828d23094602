def kq_583 : ek := (198, [.inr 86, .inl (0, 15)], [], [], [(some (.inl (0, 0)), []), (some (.inl (1, 1)), [])], 1, 22)
/-- LoadsAheadModel isKeptBack -/
theorem qk_583 (l : Launch) : ek_ok l tQ iQ kq_583 := ek_good_ok (sp := sQ) (K := [kq_582]) (SP := []) (HS := [((47, [some (.inr 86, none), some (.inl (0, 15), none), some (.inl ((-1), 14), none)], [], [], []), [(0, (0, 0, 0), 0), (2, (1, 2, 0), (-1)), (0, (0, 0, 0), 0)])]) (N := 3) (fuel := 60) hIQ (List.forall_mem_cons.mpr ⟨qk_582 l, fun _ h => absurd h List.not_mem_nil⟩) (by decide +kernel)
def kq_584 : ek := (172, [.inr 86, .inl (0, 19), .inl (0, 0)], [], [], [(some (.inl (1, 1)), []), (some (.inl (0, 0)), [])], 0, 0)
/-- LoadsAheadModel doesRead -/
theorem qk_584 (l : Launch) : ek_ok l tQ iQ kq_584 := ek_good_ok (sp := sQ) (K := []) (SP := []) (HS := []) (N := 0) (fuel := 48) hIQ (fun _ h => absurd h List.not_mem_nil) (by decide +kernel)
def kq_585 : ek := (172, [.inr 86, .inl (0, 19), .inl (0, 1)], [], [], [(some (.inl (1, 1)), []), (some (.inl (0, 0)), [])], 0, 0)
/-- LoadsAheadModel doesRead -/
theorem qk_585 (l : Launch) : ek_ok l tQ iQ kq_585 := ek_good_ok (sp := sQ) (K := []) (SP := []) (HS := []) (N := 0) (fuel := 48) hIQ (fun _ h => absurd h List.not_mem_nil) (by decide +kernel)
def kq_586 : ek := (172, [.inr 86, .inl (0, 19), .inl (0, 3)], [], [], [(some (.inl (1, 1)), []), (some (.inl (0, 0)), [])], 0, 0)
/-- LoadsAheadModel doesRead -/
theorem qk_586 (l : Launch) : ek_ok l tQ iQ kq_586 := ek_good_ok (sp := sQ) (K := []) (SP := []) (HS := []) (N := 0) (fuel := 48) hIQ (fun _ h => absurd h List.not_mem_nil) (by decide +kernel)
def kq_587 : ek := (174, [.inr 86, .inl (0, 19), .inl (0, 3)], [], [], [(some (.inl (1, 1)), []), (some (.inl (0, 0)), [])], 0, 0)
/-- LoadsAheadModel gives -/
theorem qk_587 (l : Launch) : ek_ok l tQ iQ kq_587 := ek_good_ok (sp := sQ) (K := []) (SP := []) (HS := []) (N := 0) (fuel := 38) hIQ (fun _ h => absurd h List.not_mem_nil) (by decide +kernel)
def kq_588 : ek := (173, [.inr 86, .inl (0, 19), .inl (0, 3)], [], [], [(some (.inl (0, 18)), []), (some (.inl ((-1), (-1))), [])], 1, 22)
/-- LoadsAheadModel giverOf -/
theorem qk_588 (l : Launch) : ek_ok l tQ iQ kq_588 := ek_good_ok (sp := sQ) (K := [kq_587]) (SP := []) (HS := [((4, [some (.inr 86, none), some (.inl (0, 19), none), some (.inl (0, 3), none), some (.inl ((-1), 18), none)], [], [], []), [(0, (0, 0, 0), 0), (2, (1, 3, 0), (-1)), (0, (0, 0, 0), 0)])]) (N := 3) (fuel := 28) hIQ (List.forall_mem_cons.mpr ⟨qk_587 l, fun _ h => absurd h List.not_mem_nil⟩) (by decide +kernel)
def kq_589 : ek := (174, [.inr 86, .inl (0, 19), .inl (0, 1)], [], [], [(some (.inl (1, 1)), []), (some (.inl (0, 0)), [])], 0, 0)
/-- LoadsAheadModel gives -/
theorem qk_589 (l : Launch) : ek_ok l tQ iQ kq_589 := ek_good_ok (sp := sQ) (K := []) (SP := []) (HS := []) (N := 0) (fuel := 38) hIQ (fun _ h => absurd h List.not_mem_nil) (by decide +kernel)
def kq_590 : ek := (173, [.inr 86, .inl (0, 19), .inl (0, 1)], [], [], [(some (.inl (0, 18)), []), (some (.inl ((-1), (-1))), [])], 1, 22)
/-- LoadsAheadModel giverOf -/
theorem qk_590 (l : Launch) : ek_ok l tQ iQ kq_590 := ek_good_ok (sp := sQ) (K := [kq_589]) (SP := []) (HS := [((4, [some (.inr 86, none), some (.inl (0, 19), none), some (.inl (0, 1), none), some (.inl ((-1), 18), none)], [], [], []), [(0, (0, 0, 0), 0), (2, (1, 3, 0), (-1)), (0, (0, 0, 0), 0)])]) (N := 3) (fuel := 28) hIQ (List.forall_mem_cons.mpr ⟨qk_589 l, fun _ h => absurd h List.not_mem_nil⟩) (by decide +kernel)
def kq_591 : ek := (174, [.inr 86, .inl (0, 19), .inl (0, 0)], [], [], [(some (.inl (1, 1)), []), (some (.inl (0, 0)), [])], 0, 0)
/-- LoadsAheadModel gives -/
theorem qk_591 (l : Launch) : ek_ok l tQ iQ kq_591 := ek_good_ok (sp := sQ) (K := []) (SP := []) (HS := []) (N := 0) (fuel := 38) hIQ (fun _ h => absurd h List.not_mem_nil) (by decide +kernel)
def kq_592 : ek := (173, [.inr 86, .inl (0, 19), .inl (0, 0)], [], [], [(some (.inl (0, 18)), []), (some (.inl ((-1), (-1))), [])], 1, 22)
/-- LoadsAheadModel giverOf -/
theorem qk_592 (l : Launch) : ek_ok l tQ iQ kq_592 := ek_good_ok (sp := sQ) (K := [kq_591]) (SP := []) (HS := [((4, [some (.inr 86, none), some (.inl (0, 19), none), some (.inl (0, 0), none), some (.inl ((-1), 18), none)], [], [], []), [(0, (0, 0, 0), 0), (2, (1, 3, 0), (-1)), (0, (0, 0, 0), 0)])]) (N := 3) (fuel := 28) hIQ (List.forall_mem_cons.mpr ⟨qk_591 l, fun _ h => absurd h List.not_mem_nil⟩) (by decide +kernel)
def kq_593 : ek := (185, [.inl ((-2147483648), 2147483647), .inl (0, 0)], [], [], [(some (.inl (0, 255)), [])], 0, 0)
/-- LoadsAheadModel byteOf -/
theorem qk_593 (l : Launch) : ek_ok l tQ iQ kq_593 := ek_good_ok (sp := sQ) (K := []) (SP := []) (HS := []) (N := 0) (fuel := 24) hIQ (fun _ h => absurd h List.not_mem_nil) (by decide +kernel)
def kq_594 : ek := (185, [.inl ((-2147483648), 2147483647), .inl (0, 1)], [], [], [(some (.inl (0, 255)), [])], 0, 0)
/-- LoadsAheadModel byteOf -/
theorem qk_594 (l : Launch) : ek_ok l tQ iQ kq_594 := ek_good_ok (sp := sQ) (K := []) (SP := []) (HS := []) (N := 0) (fuel := 24) hIQ (fun _ h => absurd h List.not_mem_nil) (by decide +kernel)
def kq_595 : ek := (185, [.inl ((-2147483648), 2147483647), .inl (0, 2)], [], [], [(some (.inl (0, 255)), [])], 0, 0)
/-- LoadsAheadModel byteOf -/
theorem qk_595 (l : Launch) : ek_ok l tQ iQ kq_595 := ek_good_ok (sp := sQ) (K := []) (SP := []) (HS := []) (N := 0) (fuel := 24) hIQ (fun _ h => absurd h List.not_mem_nil) (by decide +kernel)
def kq_596 : ek := (201, [.inr 86, .inl (0, 15), .inl (0, 0), .inl (0, 15)], [], [(109, 999)], [(none, [])], 0, 0)
/-- LoadsAheadModel feels -/
theorem qk_596 (l : Launch) : ek_ok l tQ iQ kq_596 := ek_good_ok (sp := sQ) (K := []) (SP := []) (HS := []) (N := 0) (fuel := 120) hIQ (fun _ h => absurd h List.not_mem_nil) (by decide +kernel)
def kq_599 : ek := (201, [.inr 86, .inl (0, 7), .inl (0, 0), .inl (0, 15)], [], [(109, 999)], [(none, [])], 0, 0)
/-- LoadsAheadModel feels -/
theorem qk_599 (l : Launch) : ek_ok l tQ iQ kq_599 := ek_good_ok (sp := sQ) (K := []) (SP := []) (HS := []) (N := 0) (fuel := 120) hIQ (fun _ h => absurd h List.not_mem_nil) (by decide +kernel)
def kq_602 : ek := (201, [.inr 86, .inl (0, 3), .inl (0, 0), .inl (0, 15)], [], [(109, 999)], [(none, [])], 0, 0)
/-- LoadsAheadModel feels -/
theorem qk_602 (l : Launch) : ek_ok l tQ iQ kq_602 := ek_good_ok (sp := sQ) (K := []) (SP := []) (HS := []) (N := 0) (fuel := 120) hIQ (fun _ h => absurd h List.not_mem_nil) (by decide +kernel)
def kq_605 : ek := (201, [.inr 86, .inl (0, 1), .inl (0, 0), .inl (0, 15)], [], [(109, 999)], [(none, [])], 0, 0)
/-- LoadsAheadModel feels -/
theorem qk_605 (l : Launch) : ek_ok l tQ iQ kq_605 := ek_good_ok (sp := sQ) (K := []) (SP := []) (HS := []) (N := 0) (fuel := 120) hIQ (fun _ h => absurd h List.not_mem_nil) (by decide +kernel)
def kq_609 : ek := (201, [.inr 86, .inl (0, 19), .inl (0, 1), .inl (0, 15)], [], [(109, 999)], [(none, [])], 0, 0)
/-- LoadsAheadModel feels -/
theorem qk_609 (l : Launch) : ek_ok l tQ iQ kq_609 := ek_good_ok (sp := sQ) (K := []) (SP := []) (HS := []) (N := 0) (fuel := 120) hIQ (fun _ h => absurd h List.not_mem_nil) (by decide +kernel)
def kq_611 : ek := (201, [.inr 86, .inl (0, 19), .inl (0, 1), .inl (0, 0)], [], [(109, 999)], [(none, [])], 0, 0)
/-- LoadsAheadModel feels -/
theorem qk_611 (l : Launch) : ek_ok l tQ iQ kq_611 := ek_good_ok (sp := sQ) (K := []) (SP := []) (HS := []) (N := 0) (fuel := 120) hIQ (fun _ h => absurd h List.not_mem_nil) (by decide +kernel)
def kq_619 : ek := (201, [.inr 86, .inl (0, 0), .inl (0, 1), .inl (0, 15)], [], [(109, 999)], [(none, [])], 0, 0)
/-- LoadsAheadModel feels -/
theorem qk_619 (l : Launch) : ek_ok l tQ iQ kq_619 := ek_good_ok (sp := sQ) (K := []) (SP := []) (HS := []) (N := 0) (fuel := 120) hIQ (fun _ h => absurd h List.not_mem_nil) (by decide +kernel)
def kq_621 : ek := (201, [.inr 86, .inl (0, 15), .inl (0, 1), .inl (0, 15)], [], [(109, 999)], [(none, [])], 0, 0)
/-- LoadsAheadModel feels -/
theorem qk_621 (l : Launch) : ek_ok l tQ iQ kq_621 := ek_good_ok (sp := sQ) (K := []) (SP := []) (HS := []) (N := 0) (fuel := 120) hIQ (fun _ h => absurd h List.not_mem_nil) (by decide +kernel)
def kq_623 : ek := (201, [.inr 86, .inl (0, 7), .inl (0, 1), .inl (0, 15)], [], [(109, 999)], [(none, [])], 0, 0)
/-- LoadsAheadModel feels -/
theorem qk_623 (l : Launch) : ek_ok l tQ iQ kq_623 := ek_good_ok (sp := sQ) (K := []) (SP := []) (HS := []) (N := 0) (fuel := 120) hIQ (fun _ h => absurd h List.not_mem_nil) (by decide +kernel)
def kq_625 : ek := (201, [.inr 86, .inl (0, 3), .inl (0, 1), .inl (0, 15)], [], [(109, 999)], [(none, [])], 0, 0)
/-- LoadsAheadModel feels -/
theorem qk_625 (l : Launch) : ek_ok l tQ iQ kq_625 := ek_good_ok (sp := sQ) (K := []) (SP := []) (HS := []) (N := 0) (fuel := 120) hIQ (fun _ h => absurd h List.not_mem_nil) (by decide +kernel)
def kq_627 : ek := (201, [.inr 86, .inl (0, 1), .inl (0, 1), .inl (0, 15)], [], [(109, 999)], [(none, [])], 0, 0)
/-- LoadsAheadModel feels -/
theorem qk_627 (l : Launch) : ek_ok l tQ iQ kq_627 := ek_good_ok (sp := sQ) (K := []) (SP := []) (HS := []) (N := 0) (fuel := 120) hIQ (fun _ h => absurd h List.not_mem_nil) (by decide +kernel)
def kq_630 : ek := (201, [.inr 86, .inl (0, 19), .inl (0, 3), .inl (0, 15)], [], [(109, 999)], [(none, [])], 0, 0)
/-- LoadsAheadModel feels -/
theorem qk_630 (l : Launch) : ek_ok l tQ iQ kq_630 := ek_good_ok (sp := sQ) (K := []) (SP := []) (HS := []) (N := 0) (fuel := 120) hIQ (fun _ h => absurd h List.not_mem_nil) (by decide +kernel)
def kq_632 : ek := (201, [.inr 86, .inl (0, 19), .inl (0, 3), .inl (0, 0)], [], [(109, 999)], [(none, [])], 0, 0)
/-- LoadsAheadModel feels -/
theorem qk_632 (l : Launch) : ek_ok l tQ iQ kq_632 := ek_good_ok (sp := sQ) (K := []) (SP := []) (HS := []) (N := 0) (fuel := 120) hIQ (fun _ h => absurd h List.not_mem_nil) (by decide +kernel)
def kq_640 : ek := (201, [.inr 86, .inl (0, 0), .inl (0, 3), .inl (0, 15)], [], [(109, 999)], [(none, [])], 0, 0)
/-- LoadsAheadModel feels -/
theorem qk_640 (l : Launch) : ek_ok l tQ iQ kq_640 := ek_good_ok (sp := sQ) (K := []) (SP := []) (HS := []) (N := 0) (fuel := 120) hIQ (fun _ h => absurd h List.not_mem_nil) (by decide +kernel)
def kq_642 : ek := (201, [.inr 86, .inl (0, 15), .inl (0, 3), .inl (0, 15)], [], [(109, 999)], [(none, [])], 0, 0)
/-- LoadsAheadModel feels -/
theorem qk_642 (l : Launch) : ek_ok l tQ iQ kq_642 := ek_good_ok (sp := sQ) (K := []) (SP := []) (HS := []) (N := 0) (fuel := 120) hIQ (fun _ h => absurd h List.not_mem_nil) (by decide +kernel)
def kq_644 : ek := (201, [.inr 86, .inl (0, 7), .inl (0, 3), .inl (0, 15)], [], [(109, 999)], [(none, [])], 0, 0)
/-- LoadsAheadModel feels -/
theorem qk_644 (l : Launch) : ek_ok l tQ iQ kq_644 := ek_good_ok (sp := sQ) (K := []) (SP := []) (HS := []) (N := 0) (fuel := 120) hIQ (fun _ h => absurd h List.not_mem_nil) (by decide +kernel)
def kq_646 : ek := (201, [.inr 86, .inl (0, 3), .inl (0, 3), .inl (0, 15)], [], [(109, 999)], [(none, [])], 0, 0)
/-- LoadsAheadModel feels -/
theorem qk_646 (l : Launch) : ek_ok l tQ iQ kq_646 := ek_good_ok (sp := sQ) (K := []) (SP := []) (HS := []) (N := 0) (fuel := 120) hIQ (fun _ h => absurd h List.not_mem_nil) (by decide +kernel)
def kq_648 : ek := (201, [.inr 86, .inl (0, 1), .inl (0, 3), .inl (0, 15)], [], [(109, 999)], [(none, [])], 0, 0)
/-- LoadsAheadModel feels -/
theorem qk_648 (l : Launch) : ek_ok l tQ iQ kq_648 := ek_good_ok (sp := sQ) (K := []) (SP := []) (HS := []) (N := 0) (fuel := 120) hIQ (fun _ h => absurd h List.not_mem_nil) (by decide +kernel)
def kq_651 : ek := (201, [.inr 86, .inl (0, 19), .inl (0, 7), .inl (0, 15)], [], [(109, 999)], [(none, [])], 0, 0)
/-- LoadsAheadModel feels -/
theorem qk_651 (l : Launch) : ek_ok l tQ iQ kq_651 := ek_good_ok (sp := sQ) (K := []) (SP := []) (HS := []) (N := 0) (fuel := 120) hIQ (fun _ h => absurd h List.not_mem_nil) (by decide +kernel)
def kq_653 : ek := (201, [.inr 86, .inl (0, 19), .inl (0, 7), .inl (0, 0)], [], [(109, 999)], [(none, [])], 0, 0)
/-- LoadsAheadModel feels -/
theorem qk_653 (l : Launch) : ek_ok l tQ iQ kq_653 := ek_good_ok (sp := sQ) (K := []) (SP := []) (HS := []) (N := 0) (fuel := 120) hIQ (fun _ h => absurd h List.not_mem_nil) (by decide +kernel)
def kq_661 : ek := (201, [.inr 86, .inl (0, 0), .inl (0, 7), .inl (0, 15)], [], [(109, 999)], [(none, [])], 0, 0)
/-- LoadsAheadModel feels -/
theorem qk_661 (l : Launch) : ek_ok l tQ iQ kq_661 := ek_good_ok (sp := sQ) (K := []) (SP := []) (HS := []) (N := 0) (fuel := 120) hIQ (fun _ h => absurd h List.not_mem_nil) (by decide +kernel)
def kq_663 : ek := (201, [.inr 86, .inl (0, 15), .inl (0, 7), .inl (0, 15)], [], [(109, 999)], [(none, [])], 0, 0)
/-- LoadsAheadModel feels -/
theorem qk_663 (l : Launch) : ek_ok l tQ iQ kq_663 := ek_good_ok (sp := sQ) (K := []) (SP := []) (HS := []) (N := 0) (fuel := 120) hIQ (fun _ h => absurd h List.not_mem_nil) (by decide +kernel)
def kq_665 : ek := (201, [.inr 86, .inl (0, 7), .inl (0, 7), .inl (0, 15)], [], [(109, 999)], [(none, [])], 0, 0)
/-- LoadsAheadModel feels -/
theorem qk_665 (l : Launch) : ek_ok l tQ iQ kq_665 := ek_good_ok (sp := sQ) (K := []) (SP := []) (HS := []) (N := 0) (fuel := 120) hIQ (fun _ h => absurd h List.not_mem_nil) (by decide +kernel)
def kq_667 : ek := (201, [.inr 86, .inl (0, 3), .inl (0, 7), .inl (0, 15)], [], [(109, 999)], [(none, [])], 0, 0)
/-- LoadsAheadModel feels -/
theorem qk_667 (l : Launch) : ek_ok l tQ iQ kq_667 := ek_good_ok (sp := sQ) (K := []) (SP := []) (HS := []) (N := 0) (fuel := 120) hIQ (fun _ h => absurd h List.not_mem_nil) (by decide +kernel)
def kq_669 : ek := (201, [.inr 86, .inl (0, 1), .inl (0, 7), .inl (0, 15)], [], [(109, 999)], [(none, [])], 0, 0)
/-- LoadsAheadModel feels -/
theorem qk_669 (l : Launch) : ek_ok l tQ iQ kq_669 := ek_good_ok (sp := sQ) (K := []) (SP := []) (HS := []) (N := 0) (fuel := 120) hIQ (fun _ h => absurd h List.not_mem_nil) (by decide +kernel)
def kq_672 : ek := (201, [.inr 86, .inl (0, 19), .inl (0, 15), .inl (0, 15)], [], [(109, 999)], [(none, [])], 0, 0)
/-- LoadsAheadModel feels -/
theorem qk_672 (l : Launch) : ek_ok l tQ iQ kq_672 := ek_good_ok (sp := sQ) (K := []) (SP := []) (HS := []) (N := 0) (fuel := 120) hIQ (fun _ h => absurd h List.not_mem_nil) (by decide +kernel)
