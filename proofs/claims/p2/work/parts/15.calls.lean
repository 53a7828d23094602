def kq_0 : ek := (10, [.inr 2, .inl ((-2147483648), (-1)), .inl ((-2147483648), 2147483647)], [], [], [(some (.inl (0, 0)), [])], 0, 0)
/-- LoadsAhead register -/
theorem qk_0 (l : Launch) : ek_ok l tQ iQ kq_0 := ek_good_ok (sp := sQ) (K := []) (SP := []) (HS := []) (N := 0) (fuel := 16) hIQ (fun _ h => absurd h List.not_mem_nil) (by decide +kernel)
def kq_1 : ek := (10, [.inr 2, .inl (0, 7), .inl ((-2147483648), 2147483647)], [], [(25, 999)], [(some (.inl (1, 1)), [])], 0, 0)
/-- LoadsAhead register -/
theorem qk_1 (l : Launch) : ek_ok l tQ iQ kq_1 := ek_good_ok (sp := sQ) (K := []) (SP := []) (HS := []) (N := 0) (fuel := 36) hIQ (fun _ h => absurd h List.not_mem_nil) (by decide +kernel)
def kq_2 : ek := (10, [.inr 2, .inl (8, 2147483647), .inl ((-2147483648), 2147483647)], [], [], [(some (.inl (0, 0)), [])], 0, 0)
/-- LoadsAhead register -/
theorem qk_2 (l : Launch) : ek_ok l tQ iQ kq_2 := ek_good_ok (sp := sQ) (K := []) (SP := []) (HS := []) (N := 0) (fuel := 22) hIQ (fun _ h => absurd h List.not_mem_nil) (by decide +kernel)
def kq_3 : ek := (137, [.inl ((-2147483648), (-1)), .inl (0, 0), .inl (7, 7)], [], [], [(some (.inl (0, 0)), [])], 0, 0)
/-- LoadsAheadModel in -/
theorem qk_3 (l : Launch) : ek_ok l tQ iQ kq_3 := ek_good_ok (sp := sQ) (K := []) (SP := []) (HS := []) (N := 0) (fuel := 18) hIQ (fun _ h => absurd h List.not_mem_nil) (by decide +kernel)
def kq_4 : ek := (136, [.inr 86, .inl ((-2147483648), (-1)), .inl ((-2147483648), 2147483647)], [], [], [(some (.inl (0, 0)), [])], 1, 22)
/-- LoadsAheadModel register -/
theorem qk_4 (l : Launch) : ek_ok l tQ iQ kq_4 := ek_good_ok (sp := sQ) (K := [kq_3]) (SP := [(4, [(2, [(-1), 7])])]) (HS := []) (N := 0) (fuel := 22) hIQ (List.forall_mem_cons.mpr ⟨qk_3 l, fun _ h => absurd h List.not_mem_nil⟩) (by decide +kernel)
def kq_5 : ek := (137, [.inl (0, 7), .inl (0, 0), .inl (7, 7)], [], [], [(some (.inl (1, 1)), [])], 0, 0)
/-- LoadsAheadModel in -/
theorem qk_5 (l : Launch) : ek_ok l tQ iQ kq_5 := ek_good_ok (sp := sQ) (K := []) (SP := []) (HS := []) (N := 0) (fuel := 26) hIQ (fun _ h => absurd h List.not_mem_nil) (by decide +kernel)
def kq_6 : ek := (136, [.inr 86, .inl (0, 7), .inl ((-2147483648), 2147483647)], [], [(85, 999)], [(some (.inl (1, 1)), [])], 1, 22)
/-- LoadsAheadModel register -/
theorem qk_6 (l : Launch) : ek_ok l tQ iQ kq_6 := ek_good_ok (sp := sQ) (K := [kq_5]) (SP := [(4, [(2, [(-1), 7])])]) (HS := []) (N := 0) (fuel := 32) hIQ (List.forall_mem_cons.mpr ⟨qk_5 l, fun _ h => absurd h List.not_mem_nil⟩) (by decide +kernel)
def kq_7 : ek := (137, [.inl (8, 2147483647), .inl (0, 0), .inl (7, 7)], [], [], [(some (.inl (0, 0)), [])], 0, 0)
/-- LoadsAheadModel in -/
theorem qk_7 (l : Launch) : ek_ok l tQ iQ kq_7 := ek_good_ok (sp := sQ) (K := []) (SP := []) (HS := []) (N := 0) (fuel := 24) hIQ (fun _ h => absurd h List.not_mem_nil) (by decide +kernel)
def kq_8 : ek := (136, [.inr 86, .inl (8, 2147483647), .inl ((-2147483648), 2147483647)], [], [], [(some (.inl (0, 0)), [])], 1, 22)
/-- LoadsAheadModel register -/
theorem qk_8 (l : Launch) : ek_ok l tQ iQ kq_8 := ek_good_ok (sp := sQ) (K := [kq_7]) (SP := [(4, [(2, [(-1), 7])])]) (HS := []) (N := 0) (fuel := 22) hIQ (List.forall_mem_cons.mpr ⟨qk_7 l, fun _ h => absurd h List.not_mem_nil⟩) (by decide +kernel)
def kq_9 : ek := (11, [.inr 2, .inl ((-2147483648), (-1)), .inl ((-2147483648), 2147483647)], [], [], [(some (.inl (0, 0)), [])], 0, 0)
/-- LoadsAhead poke -/
theorem qk_9 (l : Launch) : ek_ok l tQ iQ kq_9 := ek_good_ok (sp := sQ) (K := []) (SP := []) (HS := []) (N := 0) (fuel := 16) hIQ (fun _ h => absurd h List.not_mem_nil) (by decide +kernel)
def kq_10 : ek := (11, [.inr 2, .inl (64, 2147483647), .inl ((-2147483648), 2147483647)], [], [], [(some (.inl (0, 0)), [])], 0, 0)
/-- LoadsAhead poke -/
theorem qk_10 (l : Launch) : ek_ok l tQ iQ kq_10 := ek_good_ok (sp := sQ) (K := []) (SP := []) (HS := []) (N := 0) (fuel := 22) hIQ (fun _ h => absurd h List.not_mem_nil) (by decide +kernel)
def kq_11 : ek := (11, [.inr 2, .inl (0, 63), .inl ((-2147483648), (-1))], [], [], [(some (.inl (0, 0)), [])], 0, 0)
/-- LoadsAhead poke -/
theorem qk_11 (l : Launch) : ek_ok l tQ iQ kq_11 := ek_good_ok (sp := sQ) (K := []) (SP := []) (HS := []) (N := 0) (fuel := 26) hIQ (fun _ h => absurd h List.not_mem_nil) (by decide +kernel)
