def kq_2516 : ek := (40, [.inr 2, .inl (141, 240)], [((2, 1, 1), (140, 140), none)], [], [(some (.inl ((-1), (-1))), [((2, 1, 1), (140, 140), none)])], 0, 0)
/-- LoadsAhead program -/
theorem qk_2516 (l : Launch) : ek_ok l tQ iG kq_2516 := ek_good_ok (sp := sG) (K := []) (SP := []) (HS := []) (N := 0) (fuel := 34) iG_hI (fun _ h => absurd h List.not_mem_nil) (by decide +kernel)
def kq_2517 : ek := (137, [.inl (141, 240), .inl (1, 1), .inl (240, 240)], [], [], [(some (.inl (1, 1)), [])], 0, 0)
/-- LoadsAheadModel in -/
theorem qk_2517 (l : Launch) : ek_ok l tQ iG kq_2517 := ek_good_ok (sp := sG) (K := []) (SP := []) (HS := []) (N := 0) (fuel := 26) iG_hI (fun _ h => absurd h List.not_mem_nil) (by decide +kernel)
def kq_2518 : ek := (163, [.inr 86, .inl (141, 240)], [((2, 84, 18), (140, 140), none)], [], [(some (.inl ((-1), (-1))), [((2, 84, 18), (140, 140), none)])], 1, 22)
/-- LoadsAheadModel program -/
theorem qk_2518 (l : Launch) : ek_ok l tQ iG kq_2518 := ek_good_ok (sp := sG) (K := [kq_2517]) (SP := [(5, [(2, [0, 240])])]) (HS := []) (N := 0) (fuel := 30) iG_hI (List.forall_mem_cons.mpr ⟨(qk_2517 l), fun _ h => absurd h List.not_mem_nil⟩) (by decide +kernel)
def kq_2519 : ek := (131, [.inr 2, .inl (0, 64)], [((2, 1, 1), (140, 140), none)], [(1, 1)], [(some (.inl (0, 63)), [((2, 1, 1), (0, 0), none)]), (some (.inl ((-1), 63)), [((2, 1, 1), (0, 0), none)]), (some (.inl ((-1), (-1))), [((2, 1, 1), (0, 0), none)])], 1, 20)
/-- LoadsAhead check -/
theorem qk_2519 (l : Launch) : ek_ok l tQ iG kq_2519 := ek_good_ok (sp := sG) (K := [kq_103]) (SP := []) (HS := [((28, [some (.inr 2, none), some (.inl (0, 64), none), some (.inl ((-1), 63), none), some (.inl (0, 64), none)], [], [], []), [(0, (0, 0, 0), 0), (1, (1, 3, 0), 64), (0, (0, 0, 0), 0)])]) (N := 3) (fuel := 54) iG_hI (List.forall_mem_cons.mpr ⟨(ek_upS iG_hI (fun _ _ => trivial) rfl (qk_103 l)), fun _ h => absurd h List.not_mem_nil⟩) (by decide +kernel)
def kq_2520 : ek := (237, [.inr 86, .inl (0, 64)], [((2, 84, 18), (140, 140), none)], [(84, 18)], [(some (.inl (0, 63)), [((2, 84, 18), (0, 0), none)]), (some (.inl ((-1), (-1))), [((2, 84, 18), (0, 0), none)])], 1, 22)
/-- LoadsAheadModel check -/
theorem qk_2520 (l : Launch) : ek_ok l tQ iG kq_2520 := ek_good_ok (sp := sG) (K := [kq_1208, kq_2453]) (SP := [(4, [(2, [(-1), 64])])]) (HS := [((28, [some (.inr 86, none), some (.inl (0, 64), none), some (.inl (0, 64), none)], [], [((2, 84, 18), (0, 0), none)], []), [(0, (0, 0, 0), 0), (1, (1, 2, 0), 64), (0, (0, 0, 0), 0)])]) (N := 3) (fuel := 38) iG_hI (List.forall_mem_cons.mpr ⟨(ek_upS iG_hI (fun _ _ => trivial) rfl (qk_1208 l)), List.forall_mem_cons.mpr ⟨(qk_2453 l), fun _ h => absurd h List.not_mem_nil⟩⟩) (by decide +kernel)
def kq_2521 : ek := (13, [.inr 3, .inl ((-2147483648), 2147483647)], [((2, 1, 1), (160, 160), none)], [(1, 1), (2, 999)], [(none, [((2, 1, 1), (164, 164), none)])], 0, 0)
/-- LoadsAhead.Tape add -/
theorem qk_2521 (l : Launch) : ek_ok l tQ iG kq_2521 := ek_good_ok (sp := sG) (K := []) (SP := []) (HS := []) (N := 0) (fuel := 210) iG_hI (fun _ h => absurd h List.not_mem_nil) (by decide +kernel)
def kq_2522 : ek := (13, [.inr 3, .inl ((-2147483648), 2147483647)], [((2, 1, 1), (164, 164), none)], [(1, 1), (2, 999)], [(none, [((2, 1, 1), (168, 168), none)])], 0, 0)
/-- LoadsAhead.Tape add -/
theorem qk_2522 (l : Launch) : ek_ok l tQ iG kq_2522 := ek_good_ok (sp := sG) (K := []) (SP := []) (HS := []) (N := 0) (fuel := 210) iG_hI (fun _ h => absurd h List.not_mem_nil) (by decide +kernel)
def kq_2523 : ek := (13, [.inr 3, .inl ((-2147483648), 2147483647)], [((2, 1, 1), (168, 168), none)], [(1, 1), (2, 999)], [(none, [((2, 1, 1), (172, 172), none)])], 0, 0)
/-- LoadsAhead.Tape add -/
theorem qk_2523 (l : Launch) : ek_ok l tQ iG kq_2523 := ek_good_ok (sp := sG) (K := []) (SP := []) (HS := []) (N := 0) (fuel := 210) iG_hI (fun _ h => absurd h List.not_mem_nil) (by decide +kernel)
def kq_2524 : ek := (13, [.inr 3, .inl ((-2147483648), 2147483647)], [((2, 1, 1), (172, 172), none)], [(1, 1), (2, 999)], [(none, [((2, 1, 1), (176, 176), none)])], 0, 0)
/-- LoadsAhead.Tape add -/
theorem qk_2524 (l : Launch) : ek_ok l tQ iG kq_2524 := ek_good_ok (sp := sG) (K := []) (SP := []) (HS := []) (N := 0) (fuel := 210) iG_hI (fun _ h => absurd h List.not_mem_nil) (by decide +kernel)
def kq_2525 : ek := (13, [.inr 3, .inl ((-2147483648), 2147483647)], [((2, 1, 1), (176, 176), none)], [(1, 1), (2, 999)], [(none, [((2, 1, 1), (180, 180), none)])], 0, 0)
/-- LoadsAhead.Tape add -/
theorem qk_2525 (l : Launch) : ek_ok l tQ iG kq_2525 := ek_good_ok (sp := sG) (K := []) (SP := []) (HS := []) (N := 0) (fuel := 210) iG_hI (fun _ h => absurd h List.not_mem_nil) (by decide +kernel)
def kq_2526 : ek := (12, [.inr 2, .inl ((-2147483648), 2147483647), .inl ((-2147483648), 2147483647), .inl ((-2147483648), 2147483647), .inl ((-2147483648), 2147483647), .inl ((-2147483648), 2147483647)], [((2, 1, 1), (160, 160), none)], [(1, 1), (2, 999)], [(some (.inl (180, 180)), [((2, 1, 1), (180, 180), none)])], 1, 22)
/-- LoadsAhead feed -/
theorem qk_2526 (l : Launch) : ek_ok l tQ iG kq_2526 := ek_good_ok (sp := sG) (K := [kq_2521, kq_2522, kq_2523, kq_2524, kq_2525]) (SP := []) (HS := []) (N := 0) (fuel := 70) iG_hI (List.forall_mem_cons.mpr ⟨(qk_2521 l), List.forall_mem_cons.mpr ⟨(qk_2522 l), List.forall_mem_cons.mpr ⟨(qk_2523 l), List.forall_mem_cons.mpr ⟨(qk_2524 l), List.forall_mem_cons.mpr ⟨(qk_2525 l), fun _ h => absurd h List.not_mem_nil⟩⟩⟩⟩⟩) (by decide +kernel)
def kq_2527 : ek := (140, [.inr 86, .inl ((-2147483648), 2147483647)], [((2, 84, 18), (160, 160), none)], [(84, 18), (96, 999)], [(none, [((2, 84, 18), (164, 164), none)])], 0, 0)
/-- LoadsAheadModel types -/
theorem qk_2527 (l : Launch) : ek_ok l tQ iG kq_2527 := ek_good_ok (sp := sG) (K := []) (SP := []) (HS := []) (N := 0) (fuel := 186) iG_hI (fun _ h => absurd h List.not_mem_nil) (by decide +kernel)
def kq_2528 : ek := (140, [.inr 86, .inl ((-2147483648), 2147483647)], [((2, 84, 18), (164, 164), none)], [(84, 18), (96, 999)], [(none, [((2, 84, 18), (168, 168), none)])], 0, 0)
/-- LoadsAheadModel types -/
theorem qk_2528 (l : Launch) : ek_ok l tQ iG kq_2528 := ek_good_ok (sp := sG) (K := []) (SP := []) (HS := []) (N := 0) (fuel := 186) iG_hI (fun _ h => absurd h List.not_mem_nil) (by decide +kernel)
def kq_2529 : ek := (140, [.inr 86, .inl ((-2147483648), 2147483647)], [((2, 84, 18), (168, 168), none)], [(84, 18), (96, 999)], [(none, [((2, 84, 18), (172, 172), none)])], 0, 0)
/-- LoadsAheadModel types -/
theorem qk_2529 (l : Launch) : ek_ok l tQ iG kq_2529 := ek_good_ok (sp := sG) (K := []) (SP := []) (HS := []) (N := 0) (fuel := 186) iG_hI (fun _ h => absurd h List.not_mem_nil) (by decide +kernel)
def kq_2530 : ek := (140, [.inr 86, .inl ((-2147483648), 2147483647)], [((2, 84, 18), (172, 172), none)], [(84, 18), (96, 999)], [(none, [((2, 84, 18), (176, 176), none)])], 0, 0)
/-- LoadsAheadModel types -/
theorem qk_2530 (l : Launch) : ek_ok l tQ iG kq_2530 := ek_good_ok (sp := sG) (K := []) (SP := []) (HS := []) (N := 0) (fuel := 186) iG_hI (fun _ h => absurd h List.not_mem_nil) (by decide +kernel)
def kq_2531 : ek := (140, [.inr 86, .inl ((-2147483648), 2147483647)], [((2, 84, 18), (176, 176), none)], [(84, 18), (96, 999)], [(none, [((2, 84, 18), (180, 180), none)])], 0, 0)
/-- LoadsAheadModel types -/
theorem qk_2531 (l : Launch) : ek_ok l tQ iG kq_2531 := ek_good_ok (sp := sG) (K := []) (SP := []) (HS := []) (N := 0) (fuel := 186) iG_hI (fun _ h => absurd h List.not_mem_nil) (by decide +kernel)
def kq_2532 : ek := (139, [.inr 86, .inl ((-2147483648), 2147483647), .inl ((-2147483648), 2147483647), .inl ((-2147483648), 2147483647), .inl ((-2147483648), 2147483647), .inl ((-2147483648), 2147483647)], [((2, 84, 18), (160, 160), none)], [(84, 18), (96, 999)], [(some (.inl (180, 180)), [((2, 84, 18), (180, 180), none)])], 1, 22)
/-- LoadsAheadModel feed -/
theorem qk_2532 (l : Launch) : ek_ok l tQ iG kq_2532 := ek_good_ok (sp := sG) (K := [kq_2527, kq_2528, kq_2529, kq_2530, kq_2531]) (SP := []) (HS := []) (N := 0) (fuel := 56) iG_hI (List.forall_mem_cons.mpr ⟨(qk_2527 l), List.forall_mem_cons.mpr ⟨(qk_2528 l), List.forall_mem_cons.mpr ⟨(qk_2529 l), List.forall_mem_cons.mpr ⟨(qk_2530 l), List.forall_mem_cons.mpr ⟨(qk_2531 l), fun _ h => absurd h List.not_mem_nil⟩⟩⟩⟩⟩) (by decide +kernel)
def kq_2533 : ek := (14, [.inr 2, .inl (1, 160)], [((2, 1, 1), (160, 160), none)], [(1, 1), (1, 2), (1, 3), (1, 4), (16, 7), (17, 999), (18, 999), (19, 999), (20, 999), (21, 999), (57, 7), (57, 8), (58, 999), (59, 999), (60, 999), (61, 999), (62, 999)], [(some (.inl (0, 2147483647)), [((2, 1, 1), (0, 0), none), ((2, 1, 2), (0, 240), none)]), (some (.inl ((-2147483648), (-1))), [((2, 1, 1), (0, 0), none), ((2, 1, 2), (0, 240), none)])], 29, 749)
/-- LoadsAhead law -/
theorem qk_2533 (l : Launch) : ek_ok l tQ iG kq_2533 := ek_good_ok (sp := sG) (K := [kq_2040, kq_102, kq_103, kq_34]) (SP := []) (HS := []) (N := 0) (fuel := 76) iG_hI (List.forall_mem_cons.mpr ⟨(qk_2040 l), List.forall_mem_cons.mpr ⟨(cf l), List.forall_mem_cons.mpr ⟨(ek_upS iG_hI (fun _ _ => trivial) rfl (qk_103 l)), List.forall_mem_cons.mpr ⟨(ek_upS iG_hI (fun _ _ => trivial) rfl (qk_34 l)), fun _ h => absurd h List.not_mem_nil⟩⟩⟩⟩) (by decide +kernel)
def kq_2534 : ek := (14, [.inr 2, .inl (161, 240)], [((2, 1, 1), (160, 160), none)], [], [(some (.inl ((-1), (-1))), [((2, 1, 1), (160, 160), none)])], 0, 0)
/-- LoadsAhead law -/
theorem qk_2534 (l : Launch) : ek_ok l tQ iG kq_2534 := ek_good_ok (sp := sG) (K := []) (SP := []) (HS := []) (N := 0) (fuel := 34) iG_hI (fun _ h => absurd h List.not_mem_nil) (by decide +kernel)
def kq_2535 : ek := (40, [.inr 2, .inl (1, 160)], [((2, 1, 1), (160, 160), none)], [(0, 8), (0, 10), (1, 1), (1, 2), (1, 3), (1, 4), (4, 11), (4, 12), (5, 999), (6, 999), (7, 999), (8, 999), (9, 999), (10, 999), (11, 999), (12, 999), (13, 999), (24, 3), (27, 999), (45, 11), (45, 12), (46, 999), (47, 999), (48, 999), (49, 999), (50, 999), (51, 999), (52, 999), (53, 999), (54, 999), (55, 999), (56, 999), (83, 999)], [(some (.inl (0, 2147483647)), [((2, 0, 8), (0, 0), none), ((2, 0, 10), (1, 1), none), ((2, 1, 1), (0, 0), none), ((2, 1, 2), (0, 240), none), ((2, 24, 3), (0, 0), none)]), (some (.inl ((-2147483648), (-1))), [((2, 1, 1), (0, 0), none), ((2, 1, 2), (0, 240), none)])], 7, 153)
/-- LoadsAhead program -/
theorem qk_2535 (l : Launch) : ek_ok l tQ iG kq_2535 := ek_good_ok (sp := sG) (K := [kq_103, kq_138, kq_139, kq_141, kq_143, kq_34]) (SP := []) (HS := []) (N := 0) (fuel := 112) iG_hI (List.forall_mem_cons.mpr ⟨(ek_upS iG_hI (fun _ _ => trivial) rfl (qk_103 l)), List.forall_mem_cons.mpr ⟨(ek_upS iG_hI (fun _ _ => trivial) rfl (qk_138 l)), List.forall_mem_cons.mpr ⟨(ek_upS iG_hI (fun _ _ => trivial) rfl (qk_139 l)), List.forall_mem_cons.mpr ⟨(ek_upS iG_hI (fun _ _ => trivial) rfl (qk_141 l)), List.forall_mem_cons.mpr ⟨(ek_upS iG_hI (fun _ _ => trivial) rfl (qk_143 l)), List.forall_mem_cons.mpr ⟨(ek_upS iG_hI (fun _ _ => trivial) rfl (qk_34 l)), fun _ h => absurd h List.not_mem_nil⟩⟩⟩⟩⟩⟩) (by decide +kernel)
def kq_2536 : ek := (137, [.inl (1, 160), .inl (1, 1), .inl (240, 240)], [], [], [(some (.inl (1, 1)), [])], 0, 0)
/-- LoadsAheadModel in -/
theorem qk_2536 (l : Launch) : ek_ok l tQ iG kq_2536 := ek_good_ok (sp := sG) (K := []) (SP := []) (HS := []) (N := 0) (fuel := 26) iG_hI (fun _ h => absurd h List.not_mem_nil) (by decide +kernel)
def kq_2537 : ek := (163, [.inr 86, .inl (1, 160)], [((2, 84, 18), (160, 160), none)], [(84, 2), (84, 3), (84, 5), (84, 18), (84, 19), (84, 20), (84, 21), (84, 22), (84, 24), (84, 26), (84, 41), (84, 75), (87, 999), (88, 999), (89, 999), (90, 999), (91, 999), (92, 999), (93, 999), (94, 999), (95, 999), (110, 999), (111, 999), (112, 999), (113, 999), (114, 999), (115, 999), (116, 999), (117, 999), (145, 999)], [(some (.inl ((-2147483648), 2147483647)), [((2, 84, 18), (0, 0), none), ((2, 84, 24), (0, 0), none), ((2, 84, 26), (0, 0), none)]), (some (.inl (0, 20)), [((2, 84, 3), (0, 0), none), ((2, 84, 18), (0, 0), none), ((2, 84, 75), (0, 0), none)])], 5, 104)
/-- LoadsAheadModel program -/
theorem qk_2537 (l : Launch) : ek_ok l tQ iG kq_2537 := ek_good_ok (sp := sG) (K := [kq_2053, kq_2055, kq_2057, kq_2059, kq_2061, kq_2063, kq_2065, kq_2067, kq_2069, kq_2071, kq_2073, kq_2075, kq_2077, kq_223, kq_2079, kq_2081, kq_2083, kq_2085, kq_2087, kq_2089, kq_2091, kq_186, kq_2536, kq_183]) (SP := [(5, [(2, [0, 240])])]) (HS := [((100, [some (.inr 86, none), some (.inl (1, 160), none), some (.inl (1, 1), none), some (.inl (0, 20), none)], [], [((2, 84, 18), (0, 0), none)], []), [(0, (0, 0, 0), 0), (1, (1, 3, 0), 20), (0, (0, 0, 0), 0)])]) (N := 3) (fuel := 782) iG_hI (List.forall_mem_cons.mpr ⟨(qk_2053 l), List.forall_mem_cons.mpr ⟨(qk_2055 l), List.forall_mem_cons.mpr ⟨(qk_2057 l), List.forall_mem_cons.mpr ⟨(qk_2059 l), List.forall_mem_cons.mpr ⟨(qk_2061 l), List.forall_mem_cons.mpr ⟨(qk_2063 l), List.forall_mem_cons.mpr ⟨(qk_2065 l), List.forall_mem_cons.mpr ⟨(qk_2067 l), List.forall_mem_cons.mpr ⟨(qk_2069 l), List.forall_mem_cons.mpr ⟨(qk_2071 l), List.forall_mem_cons.mpr ⟨(qk_2073 l), List.forall_mem_cons.mpr ⟨(qk_2075 l), List.forall_mem_cons.mpr ⟨(qk_2077 l), List.forall_mem_cons.mpr ⟨(ek_upS iG_hI (fun _ _ => trivial) rfl (qk_223 l)), List.forall_mem_cons.mpr ⟨(qk_2079 l), List.forall_mem_cons.mpr ⟨(qk_2081 l), List.forall_mem_cons.mpr ⟨(qk_2083 l), List.forall_mem_cons.mpr ⟨(qk_2085 l), List.forall_mem_cons.mpr ⟨(qk_2087 l), List.forall_mem_cons.mpr ⟨(qk_2089 l), List.forall_mem_cons.mpr ⟨(qk_2091 l), List.forall_mem_cons.mpr ⟨(ek_upS iG_hI (fun _ _ => trivial) rfl (qk_186 l)), List.forall_mem_cons.mpr ⟨(qk_2536 l), List.forall_mem_cons.mpr ⟨(ek_upS iG_hI (fun _ _ => trivial) rfl (qk_183 l)), fun _ h => absurd h List.not_mem_nil⟩⟩⟩⟩⟩⟩⟩⟩⟩⟩⟩⟩⟩⟩⟩⟩⟩⟩⟩⟩⟩⟩⟩⟩) (by decide +kernel)
def kq_2538 : ek := (40, [.inr 2, .inl (161, 240)], [((2, 1, 1), (160, 160), none)], [], [(some (.inl ((-1), (-1))), [((2, 1, 1), (160, 160), none)])], 0, 0)
/-- LoadsAhead program -/
theorem qk_2538 (l : Launch) : ek_ok l tQ iG kq_2538 := ek_good_ok (sp := sG) (K := []) (SP := []) (HS := []) (N := 0) (fuel := 34) iG_hI (fun _ h => absurd h List.not_mem_nil) (by decide +kernel)
def kq_2539 : ek := (137, [.inl (161, 240), .inl (1, 1), .inl (240, 240)], [], [], [(some (.inl (1, 1)), [])], 0, 0)
/-- LoadsAheadModel in -/
theorem qk_2539 (l : Launch) : ek_ok l tQ iG kq_2539 := ek_good_ok (sp := sG) (K := []) (SP := []) (HS := []) (N := 0) (fuel := 26) iG_hI (fun _ h => absurd h List.not_mem_nil) (by decide +kernel)
def kq_2540 : ek := (163, [.inr 86, .inl (161, 240)], [((2, 84, 18), (160, 160), none)], [], [(some (.inl ((-1), (-1))), [((2, 84, 18), (160, 160), none)])], 1, 22)
/-- LoadsAheadModel program -/
theorem qk_2540 (l : Launch) : ek_ok l tQ iG kq_2540 := ek_good_ok (sp := sG) (K := [kq_2539]) (SP := [(5, [(2, [0, 240])])]) (HS := []) (N := 0) (fuel := 30) iG_hI (List.forall_mem_cons.mpr ⟨(qk_2539 l), fun _ h => absurd h List.not_mem_nil⟩) (by decide +kernel)
def kq_2541 : ek := (131, [.inr 2, .inl (0, 64)], [((2, 1, 1), (160, 160), none)], [(1, 1)], [(some (.inl (0, 63)), [((2, 1, 1), (0, 0), none)]), (some (.inl ((-1), 63)), [((2, 1, 1), (0, 0), none)]), (some (.inl ((-1), (-1))), [((2, 1, 1), (0, 0), none)])], 1, 20)
/-- LoadsAhead check -/
theorem qk_2541 (l : Launch) : ek_ok l tQ iG kq_2541 := ek_good_ok (sp := sG) (K := [kq_103]) (SP := []) (HS := [((28, [some (.inr 2, none), some (.inl (0, 64), none), some (.inl ((-1), 63), none), some (.inl (0, 64), none)], [], [], []), [(0, (0, 0, 0), 0), (1, (1, 3, 0), 64), (0, (0, 0, 0), 0)])]) (N := 3) (fuel := 54) iG_hI (List.forall_mem_cons.mpr ⟨(ek_upS iG_hI (fun _ _ => trivial) rfl (qk_103 l)), fun _ h => absurd h List.not_mem_nil⟩) (by decide +kernel)
def kq_2542 : ek := (237, [.inr 86, .inl (0, 64)], [((2, 84, 18), (160, 160), none)], [(84, 18)], [(some (.inl (0, 63)), [((2, 84, 18), (0, 0), none)]), (some (.inl ((-1), (-1))), [((2, 84, 18), (0, 0), none)])], 1, 22)
/-- LoadsAheadModel check -/
theorem qk_2542 (l : Launch) : ek_ok l tQ iG kq_2542 := ek_good_ok (sp := sG) (K := [kq_1208, kq_2453]) (SP := [(4, [(2, [(-1), 64])])]) (HS := [((28, [some (.inr 86, none), some (.inl (0, 64), none), some (.inl (0, 64), none)], [], [((2, 84, 18), (0, 0), none)], []), [(0, (0, 0, 0), 0), (1, (1, 2, 0), 64), (0, (0, 0, 0), 0)])]) (N := 3) (fuel := 38) iG_hI (List.forall_mem_cons.mpr ⟨(ek_upS iG_hI (fun _ _ => trivial) rfl (qk_1208 l)), List.forall_mem_cons.mpr ⟨(qk_2453 l), fun _ h => absurd h List.not_mem_nil⟩⟩) (by decide +kernel)
def kq_2543 : ek := (13, [.inr 3, .inl ((-2147483648), 2147483647)], [((2, 1, 1), (180, 180), none)], [(1, 1), (2, 999)], [(none, [((2, 1, 1), (184, 184), none)])], 0, 0)
/-- LoadsAhead.Tape add -/
theorem qk_2543 (l : Launch) : ek_ok l tQ iG kq_2543 := ek_good_ok (sp := sG) (K := []) (SP := []) (HS := []) (N := 0) (fuel := 210) iG_hI (fun _ h => absurd h List.not_mem_nil) (by decide +kernel)
def kq_2544 : ek := (13, [.inr 3, .inl ((-2147483648), 2147483647)], [((2, 1, 1), (184, 184), none)], [(1, 1), (2, 999)], [(none, [((2, 1, 1), (188, 188), none)])], 0, 0)
/-- LoadsAhead.Tape add -/
theorem qk_2544 (l : Launch) : ek_ok l tQ iG kq_2544 := ek_good_ok (sp := sG) (K := []) (SP := []) (HS := []) (N := 0) (fuel := 210) iG_hI (fun _ h => absurd h List.not_mem_nil) (by decide +kernel)
