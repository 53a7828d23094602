def kq_3005 : ek := (204, [.inl (2, 2), .inl ((-2147483648), 2147483647), .inl ((-2147483648), 2147483647)], [], [], [(some (.inl ((-2147483648), 2147483647)), [])], 0, 0)
/-- LoadsAheadModel reckon -/
theorem qk_3005 (l : Launch) : ek_ok l tQ iQ kq_3005 := ek_good_ok (sp := sQ) (K := []) (SP := []) (HS := []) (N := 0) (fuel := 20) hIQ (fun _ h => absurd h List.not_mem_nil) (by decide +kernel)
def kq_3006 : ek := (204, [.inl (3, 3), .inl ((-2147483648), 2147483647), .inl ((-2147483648), 2147483647)], [], [], [(some (.inl ((-2147483648), 2147483647)), [])], 0, 0)
/-- LoadsAheadModel reckon -/
theorem qk_3006 (l : Launch) : ek_ok l tQ iQ kq_3006 := ek_good_ok (sp := sQ) (K := []) (SP := []) (HS := []) (N := 0) (fuel := 20) hIQ (fun _ h => absurd h List.not_mem_nil) (by decide +kernel)
def kq_3007 : ek := (204, [.inl (4, 4), .inl ((-2147483648), 2147483647), .inl ((-2147483648), 2147483647)], [], [], [(some (.inl ((-2147483648), 2147483647)), [])], 0, 0)
/-- LoadsAheadModel reckon -/
theorem qk_3007 (l : Launch) : ek_ok l tQ iQ kq_3007 := ek_good_ok (sp := sQ) (K := []) (SP := []) (HS := []) (N := 0) (fuel := 20) hIQ (fun _ h => absurd h List.not_mem_nil) (by decide +kernel)
def kq_3008 : ek := (204, [.inl (7, 7), .inl ((-2147483648), 2147483647), .inl ((-2147483648), 2147483647)], [], [], [(some (.inl (0, 1)), [])], 0, 0)
/-- LoadsAheadModel reckon -/
theorem qk_3008 (l : Launch) : ek_ok l tQ iQ kq_3008 := ek_good_ok (sp := sQ) (K := []) (SP := []) (HS := []) (N := 0) (fuel := 24) hIQ (fun _ h => absurd h List.not_mem_nil) (by decide +kernel)
def kq_3009 : ek := (204, [.inl (8, 8), .inl ((-2147483648), 2147483647), .inl ((-2147483648), 2147483647)], [], [], [(some (.inl (0, 1)), [])], 0, 0)
/-- LoadsAheadModel reckon -/
theorem qk_3009 (l : Launch) : ek_ok l tQ iQ kq_3009 := ek_good_ok (sp := sQ) (K := []) (SP := []) (HS := []) (N := 0) (fuel := 24) hIQ (fun _ h => absurd h List.not_mem_nil) (by decide +kernel)
def kq_3010 : ek := (204, [.inl (9, 9), .inl ((-2147483648), 2147483647), .inl ((-2147483648), 2147483647)], [], [], [(some (.inl (0, 1)), [])], 0, 0)
/-- LoadsAheadModel reckon -/
theorem qk_3010 (l : Launch) : ek_ok l tQ iQ kq_3010 := ek_good_ok (sp := sQ) (K := []) (SP := []) (HS := []) (N := 0) (fuel := 24) hIQ (fun _ h => absurd h List.not_mem_nil) (by decide +kernel)
def kq_3011 : ek := (204, [.inl (5, 5), .inl ((-2147483648), 2147483647), .inl ((-2147483648), (-1))], [], [], [(some (.inl ((-2147483648), 2147483647)), [])], 0, 0)
/-- LoadsAheadModel reckon -/
theorem qk_3011 (l : Launch) : ek_ok l tQ iQ kq_3011 := ek_good_ok (sp := sQ) (K := []) (SP := []) (HS := []) (N := 0) (fuel := 20) hIQ (fun _ h => absurd h List.not_mem_nil) (by decide +kernel)
def kq_3012 : ek := (204, [.inl (5, 5), .inl ((-2147483648), 2147483647), .inl (1, 2147483647)], [], [], [(some (.inl ((-2147483648), 2147483647)), [])], 0, 0)
/-- LoadsAheadModel reckon -/
theorem qk_3012 (l : Launch) : ek_ok l tQ iQ kq_3012 := ek_good_ok (sp := sQ) (K := []) (SP := []) (HS := []) (N := 0) (fuel := 20) hIQ (fun _ h => absurd h List.not_mem_nil) (by decide +kernel)
def kq_3013 : ek := (204, [.inl (6, 6), .inl ((-2147483648), 2147483647), .inl ((-2147483648), (-1))], [], [], [(some (.inl ((-2147483648), 2147483647)), [])], 0, 0)
/-- LoadsAheadModel reckon -/
theorem qk_3013 (l : Launch) : ek_ok l tQ iQ kq_3013 := ek_good_ok (sp := sQ) (K := []) (SP := []) (HS := []) (N := 0) (fuel := 20) hIQ (fun _ h => absurd h List.not_mem_nil) (by decide +kernel)
def kq_3014 : ek := (204, [.inl (6, 6), .inl ((-2147483648), 2147483647), .inl (1, 2147483647)], [], [], [(some (.inl ((-2147483646), 2147483646)), [])], 0, 0)
/-- LoadsAheadModel reckon -/
theorem qk_3014 (l : Launch) : ek_ok l tQ iQ kq_3014 := ek_good_ok (sp := sQ) (K := []) (SP := []) (HS := []) (N := 0) (fuel := 20) hIQ (fun _ h => absurd h List.not_mem_nil) (by decide +kernel)
def kq_3015 : ek := (137, [.inl ((-1), (-1)), .inl (48, 48), .inl (55, 55)], [], [], [(some (.inl (0, 0)), [])], 0, 0)
/-- LoadsAheadModel in -/
theorem qk_3015 (l : Launch) : ek_ok l tQ iQ kq_3015 := ek_good_ok (sp := sQ) (K := []) (SP := []) (HS := []) (N := 0) (fuel := 18) hIQ (fun _ h => absurd h List.not_mem_nil) (by decide +kernel)
def kq_3016 : ek := (137, [.inl (0, 47), .inl (48, 48), .inl (55, 55)], [], [], [(some (.inl (0, 0)), [])], 0, 0)
/-- LoadsAheadModel in -/
theorem qk_3016 (l : Launch) : ek_ok l tQ iQ kq_3016 := ek_good_ok (sp := sQ) (K := []) (SP := []) (HS := []) (N := 0) (fuel := 18) hIQ (fun _ h => absurd h List.not_mem_nil) (by decide +kernel)
def kq_3017 : ek := (137, [.inl (48, 55), .inl (48, 48), .inl (55, 55)], [], [], [(some (.inl (1, 1)), [])], 0, 0)
/-- LoadsAheadModel in -/
theorem qk_3017 (l : Launch) : ek_ok l tQ iQ kq_3017 := ek_good_ok (sp := sQ) (K := []) (SP := []) (HS := []) (N := 0) (fuel := 26) hIQ (fun _ h => absurd h List.not_mem_nil) (by decide +kernel)
def kq_3018 : ek := (137, [.inl (56, 255), .inl (48, 48), .inl (55, 55)], [], [], [(some (.inl (0, 0)), [])], 0, 0)
/-- LoadsAheadModel in -/
theorem qk_3018 (l : Launch) : ek_ok l tQ iQ kq_3018 := ek_good_ok (sp := sQ) (K := []) (SP := []) (HS := []) (N := 0) (fuel := 24) hIQ (fun _ h => absurd h List.not_mem_nil) (by decide +kernel)
def kq_3019 : ek := (194, [.inr 86, .inl (0, 19), .inl (0, 19)], [], [], [(some (.inl (1, 1)), []), (some (.inl (0, 0)), [])], 0, 0)
/-- LoadsAheadModel tookFrom -/
theorem qk_3019 (l : Launch) : ek_ok l tQ iQ kq_3019 := ek_good_ok (sp := sQ) (K := []) (SP := []) (HS := [((2, [some (.inr 86, none), some (.inl (0, 19), none), some (.inl (0, 19), none), some (.inl (0, 4), none)], [], [], []), [(0, (0, 0, 0), 0), (1, (1, 3, 0), 4), (0, (0, 0, 0), 0)])]) (N := 3) (fuel := 46) hIQ (fun _ h => absurd h List.not_mem_nil) (by decide +kernel)
