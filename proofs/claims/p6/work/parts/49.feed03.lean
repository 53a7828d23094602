def kq_2434 : ek := (13, [.inr 3, .inl ((-2147483648), 2147483647)], [((2, 1, 1), (88, 88), none)], [(1, 1), (2, 999)], [(none, [((2, 1, 1), (92, 92), none)])], 0, 0)
/-- LoadsAhead.Tape add -/
theorem qk_2434 (l : Launch) : ek_ok l tQ iG kq_2434 := ek_good_ok (sp := sG) (K := []) (SP := []) (HS := []) (N := 0) (fuel := 210) iG_hI (fun _ h => absurd h List.not_mem_nil) (by decide +kernel)
def kq_2435 : ek := (13, [.inr 3, .inl ((-2147483648), 2147483647)], [((2, 1, 1), (92, 92), none)], [(1, 1), (2, 999)], [(none, [((2, 1, 1), (96, 96), none)])], 0, 0)
/-- LoadsAhead.Tape add -/
theorem qk_2435 (l : Launch) : ek_ok l tQ iG kq_2435 := ek_good_ok (sp := sG) (K := []) (SP := []) (HS := []) (N := 0) (fuel := 210) iG_hI (fun _ h => absurd h List.not_mem_nil) (by decide +kernel)
def kq_2436 : ek := (13, [.inr 3, .inl ((-2147483648), 2147483647)], [((2, 1, 1), (96, 96), none)], [(1, 1), (2, 999)], [(none, [((2, 1, 1), (100, 100), none)])], 0, 0)
/-- LoadsAhead.Tape add -/
theorem qk_2436 (l : Launch) : ek_ok l tQ iG kq_2436 := ek_good_ok (sp := sG) (K := []) (SP := []) (HS := []) (N := 0) (fuel := 210) iG_hI (fun _ h => absurd h List.not_mem_nil) (by decide +kernel)
def kq_2437 : ek := (12, [.inr 2, .inl ((-2147483648), 2147483647), .inl ((-2147483648), 2147483647), .inl ((-2147483648), 2147483647), .inl ((-2147483648), 2147483647), .inl ((-2147483648), 2147483647)], [((2, 1, 1), (80, 80), none)], [(1, 1), (2, 999)], [(some (.inl (100, 100)), [((2, 1, 1), (100, 100), none)])], 1, 22)
/-- LoadsAhead feed -/
theorem qk_2437 (l : Launch) : ek_ok l tQ iG kq_2437 := ek_good_ok (sp := sG) (K := [kq_2432, kq_2433, kq_2434, kq_2435, kq_2436]) (SP := []) (HS := []) (N := 0) (fuel := 70) iG_hI (List.forall_mem_cons.mpr ⟨(qk_2432 l), List.forall_mem_cons.mpr ⟨(qk_2433 l), List.forall_mem_cons.mpr ⟨(qk_2434 l), List.forall_mem_cons.mpr ⟨(qk_2435 l), List.forall_mem_cons.mpr ⟨(qk_2436 l), fun _ h => absurd h List.not_mem_nil⟩⟩⟩⟩⟩) (by decide +kernel)
def kq_2438 : ek := (140, [.inr 86, .inl ((-2147483648), 2147483647)], [((2, 84, 18), (80, 80), none)], [(84, 18), (96, 999)], [(none, [((2, 84, 18), (84, 84), none)])], 0, 0)
/-- LoadsAheadModel types -/
theorem qk_2438 (l : Launch) : ek_ok l tQ iG kq_2438 := ek_good_ok (sp := sG) (K := []) (SP := []) (HS := []) (N := 0) (fuel := 186) iG_hI (fun _ h => absurd h List.not_mem_nil) (by decide +kernel)
def kq_2439 : ek := (140, [.inr 86, .inl ((-2147483648), 2147483647)], [((2, 84, 18), (84, 84), none)], [(84, 18), (96, 999)], [(none, [((2, 84, 18), (88, 88), none)])], 0, 0)
/-- LoadsAheadModel types -/
theorem qk_2439 (l : Launch) : ek_ok l tQ iG kq_2439 := ek_good_ok (sp := sG) (K := []) (SP := []) (HS := []) (N := 0) (fuel := 186) iG_hI (fun _ h => absurd h List.not_mem_nil) (by decide +kernel)
def kq_2440 : ek := (140, [.inr 86, .inl ((-2147483648), 2147483647)], [((2, 84, 18), (88, 88), none)], [(84, 18), (96, 999)], [(none, [((2, 84, 18), (92, 92), none)])], 0, 0)
/-- LoadsAheadModel types -/
theorem qk_2440 (l : Launch) : ek_ok l tQ iG kq_2440 := ek_good_ok (sp := sG) (K := []) (SP := []) (HS := []) (N := 0) (fuel := 186) iG_hI (fun _ h => absurd h List.not_mem_nil) (by decide +kernel)
def kq_2441 : ek := (140, [.inr 86, .inl ((-2147483648), 2147483647)], [((2, 84, 18), (92, 92), none)], [(84, 18), (96, 999)], [(none, [((2, 84, 18), (96, 96), none)])], 0, 0)
/-- LoadsAheadModel types -/
theorem qk_2441 (l : Launch) : ek_ok l tQ iG kq_2441 := ek_good_ok (sp := sG) (K := []) (SP := []) (HS := []) (N := 0) (fuel := 186) iG_hI (fun _ h => absurd h List.not_mem_nil) (by decide +kernel)
def kq_2442 : ek := (140, [.inr 86, .inl ((-2147483648), 2147483647)], [((2, 84, 18), (96, 96), none)], [(84, 18), (96, 999)], [(none, [((2, 84, 18), (100, 100), none)])], 0, 0)
/-- LoadsAheadModel types -/
theorem qk_2442 (l : Launch) : ek_ok l tQ iG kq_2442 := ek_good_ok (sp := sG) (K := []) (SP := []) (HS := []) (N := 0) (fuel := 186) iG_hI (fun _ h => absurd h List.not_mem_nil) (by decide +kernel)
def kq_2443 : ek := (139, [.inr 86, .inl ((-2147483648), 2147483647), .inl ((-2147483648), 2147483647), .inl ((-2147483648), 2147483647), .inl ((-2147483648), 2147483647), .inl ((-2147483648), 2147483647)], [((2, 84, 18), (80, 80), none)], [(84, 18), (96, 999)], [(some (.inl (100, 100)), [((2, 84, 18), (100, 100), none)])], 1, 22)
/-- LoadsAheadModel feed -/
theorem qk_2443 (l : Launch) : ek_ok l tQ iG kq_2443 := ek_good_ok (sp := sG) (K := [kq_2438, kq_2439, kq_2440, kq_2441, kq_2442]) (SP := []) (HS := []) (N := 0) (fuel := 56) iG_hI (List.forall_mem_cons.mpr ⟨(qk_2438 l), List.forall_mem_cons.mpr ⟨(qk_2439 l), List.forall_mem_cons.mpr ⟨(qk_2440 l), List.forall_mem_cons.mpr ⟨(qk_2441 l), List.forall_mem_cons.mpr ⟨(qk_2442 l), fun _ h => absurd h List.not_mem_nil⟩⟩⟩⟩⟩) (by decide +kernel)
def kq_2444 : ek := (14, [.inr 2, .inl (1, 80)], [((2, 1, 1), (80, 80), none)], [(1, 1), (1, 2), (1, 3), (1, 4), (16, 7), (17, 999), (18, 999), (19, 999), (20, 999), (21, 999), (57, 7), (57, 8), (58, 999), (59, 999), (60, 999), (61, 999), (62, 999)], [(some (.inl (0, 2147483647)), [((2, 1, 1), (0, 0), none), ((2, 1, 2), (0, 240), none)]), (some (.inl ((-2147483648), (-1))), [((2, 1, 1), (0, 0), none), ((2, 1, 2), (0, 240), none)])], 29, 749)
/-- LoadsAhead law -/
theorem qk_2444 (l : Launch) : ek_ok l tQ iG kq_2444 := ek_good_ok (sp := sG) (K := [kq_2040, kq_102, kq_103, kq_34]) (SP := []) (HS := []) (N := 0) (fuel := 76) iG_hI (List.forall_mem_cons.mpr ⟨(qk_2040 l), List.forall_mem_cons.mpr ⟨(cf l), List.forall_mem_cons.mpr ⟨(ek_upS iG_hI (fun _ _ => trivial) rfl (qk_103 l)), List.forall_mem_cons.mpr ⟨(ek_upS iG_hI (fun _ _ => trivial) rfl (qk_34 l)), fun _ h => absurd h List.not_mem_nil⟩⟩⟩⟩) (by decide +kernel)
def kq_2445 : ek := (14, [.inr 2, .inl (81, 240)], [((2, 1, 1), (80, 80), none)], [], [(some (.inl ((-1), (-1))), [((2, 1, 1), (80, 80), none)])], 0, 0)
/-- LoadsAhead law -/
theorem qk_2445 (l : Launch) : ek_ok l tQ iG kq_2445 := ek_good_ok (sp := sG) (K := []) (SP := []) (HS := []) (N := 0) (fuel := 34) iG_hI (fun _ h => absurd h List.not_mem_nil) (by decide +kernel)
def kq_2446 : ek := (40, [.inr 2, .inl (1, 80)], [((2, 1, 1), (80, 80), none)], [(0, 8), (0, 10), (1, 1), (1, 2), (1, 3), (1, 4), (4, 11), (4, 12), (5, 999), (6, 999), (7, 999), (8, 999), (9, 999), (10, 999), (11, 999), (12, 999), (13, 999), (24, 3), (27, 999), (45, 11), (45, 12), (46, 999), (47, 999), (48, 999), (49, 999), (50, 999), (51, 999), (52, 999), (53, 999), (54, 999), (55, 999), (56, 999), (83, 999)], [(some (.inl (0, 2147483647)), [((2, 0, 8), (0, 0), none), ((2, 0, 10), (1, 1), none), ((2, 1, 1), (0, 0), none), ((2, 1, 2), (0, 240), none), ((2, 24, 3), (0, 0), none)]), (some (.inl ((-2147483648), (-1))), [((2, 1, 1), (0, 0), none), ((2, 1, 2), (0, 240), none)])], 7, 153)
/-- LoadsAhead program -/
theorem qk_2446 (l : Launch) : ek_ok l tQ iG kq_2446 := ek_good_ok (sp := sG) (K := [kq_103, kq_138, kq_139, kq_141, kq_143, kq_34]) (SP := []) (HS := []) (N := 0) (fuel := 112) iG_hI (List.forall_mem_cons.mpr ⟨(ek_upS iG_hI (fun _ _ => trivial) rfl (qk_103 l)), List.forall_mem_cons.mpr ⟨(ek_upS iG_hI (fun _ _ => trivial) rfl (qk_138 l)), List.forall_mem_cons.mpr ⟨(ek_upS iG_hI (fun _ _ => trivial) rfl (qk_139 l)), List.forall_mem_cons.mpr ⟨(ek_upS iG_hI (fun _ _ => trivial) rfl (qk_141 l)), List.forall_mem_cons.mpr ⟨(ek_upS iG_hI (fun _ _ => trivial) rfl (qk_143 l)), List.forall_mem_cons.mpr ⟨(ek_upS iG_hI (fun _ _ => trivial) rfl (qk_34 l)), fun _ h => absurd h List.not_mem_nil⟩⟩⟩⟩⟩⟩) (by decide +kernel)
def kq_2447 : ek := (137, [.inl (1, 80), .inl (1, 1), .inl (240, 240)], [], [], [(some (.inl (1, 1)), [])], 0, 0)
/-- LoadsAheadModel in -/
theorem qk_2447 (l : Launch) : ek_ok l tQ iG kq_2447 := ek_good_ok (sp := sG) (K := []) (SP := []) (HS := []) (N := 0) (fuel := 26) iG_hI (fun _ h => absurd h List.not_mem_nil) (by decide +kernel)
def kq_2448 : ek := (163, [.inr 86, .inl (1, 80)], [((2, 84, 18), (80, 80), none)], [(84, 2), (84, 3), (84, 5), (84, 18), (84, 19), (84, 20), (84, 21), (84, 22), (84, 24), (84, 26), (84, 41), (84, 75), (87, 999), (88, 999), (89, 999), (90, 999), (91, 999), (92, 999), (93, 999), (94, 999), (95, 999), (110, 999), (111, 999), (112, 999), (113, 999), (114, 999), (115, 999), (116, 999), (117, 999), (145, 999)], [(some (.inl ((-2147483648), 2147483647)), [((2, 84, 18), (0, 0), none), ((2, 84, 24), (0, 0), none), ((2, 84, 26), (0, 0), none)]), (some (.inl (0, 20)), [((2, 84, 3), (0, 0), none), ((2, 84, 18), (0, 0), none), ((2, 84, 75), (0, 0), none)])], 5, 104)
/-- LoadsAheadModel program -/
theorem qk_2448 (l : Launch) : ek_ok l tQ iG kq_2448 := ek_good_ok (sp := sG) (K := [kq_2053, kq_2055, kq_2057, kq_2059, kq_2061, kq_2063, kq_2065, kq_2067, kq_2069, kq_2071, kq_2073, kq_2075, kq_2077, kq_223, kq_2079, kq_2081, kq_2083, kq_2085, kq_2087, kq_2089, kq_2091, kq_186, kq_2447, kq_183]) (SP := [(5, [(2, [0, 240])])]) (HS := [((100, [some (.inr 86, none), some (.inl (1, 80), none), some (.inl (1, 1), none), some (.inl (0, 20), none)], [], [((2, 84, 18), (0, 0), none)], []), [(0, (0, 0, 0), 0), (1, (1, 3, 0), 20), (0, (0, 0, 0), 0)])]) (N := 3) (fuel := 782) iG_hI (List.forall_mem_cons.mpr ⟨(qk_2053 l), List.forall_mem_cons.mpr ⟨(qk_2055 l), List.forall_mem_cons.mpr ⟨(qk_2057 l), List.forall_mem_cons.mpr ⟨(qk_2059 l), List.forall_mem_cons.mpr ⟨(qk_2061 l), List.forall_mem_cons.mpr ⟨(qk_2063 l), List.forall_mem_cons.mpr ⟨(qk_2065 l), List.forall_mem_cons.mpr ⟨(qk_2067 l), List.forall_mem_cons.mpr ⟨(qk_2069 l), List.forall_mem_cons.mpr ⟨(qk_2071 l), List.forall_mem_cons.mpr ⟨(qk_2073 l), List.forall_mem_cons.mpr ⟨(qk_2075 l), List.forall_mem_cons.mpr ⟨(qk_2077 l), List.forall_mem_cons.mpr ⟨(ek_upS iG_hI (fun _ _ => trivial) rfl (qk_223 l)), List.forall_mem_cons.mpr ⟨(qk_2079 l), List.forall_mem_cons.mpr ⟨(qk_2081 l), List.forall_mem_cons.mpr ⟨(qk_2083 l), List.forall_mem_cons.mpr ⟨(qk_2085 l), List.forall_mem_cons.mpr ⟨(qk_2087 l), List.forall_mem_cons.mpr ⟨(qk_2089 l), List.forall_mem_cons.mpr ⟨(qk_2091 l), List.forall_mem_cons.mpr ⟨(ek_upS iG_hI (fun _ _ => trivial) rfl (qk_186 l)), List.forall_mem_cons.mpr ⟨(qk_2447 l), List.forall_mem_cons.mpr ⟨(ek_upS iG_hI (fun _ _ => trivial) rfl (qk_183 l)), fun _ h => absurd h List.not_mem_nil⟩⟩⟩⟩⟩⟩⟩⟩⟩⟩⟩⟩⟩⟩⟩⟩⟩⟩⟩⟩⟩⟩⟩⟩) (by decide +kernel)
def kq_2449 : ek := (40, [.inr 2, .inl (81, 240)], [((2, 1, 1), (80, 80), none)], [], [(some (.inl ((-1), (-1))), [((2, 1, 1), (80, 80), none)])], 0, 0)
/-- LoadsAhead program -/
theorem qk_2449 (l : Launch) : ek_ok l tQ iG kq_2449 := ek_good_ok (sp := sG) (K := []) (SP := []) (HS := []) (N := 0) (fuel := 34) iG_hI (fun _ h => absurd h List.not_mem_nil) (by decide +kernel)
def kq_2450 : ek := (137, [.inl (81, 240), .inl (1, 1), .inl (240, 240)], [], [], [(some (.inl (1, 1)), [])], 0, 0)
/-- LoadsAheadModel in -/
theorem qk_2450 (l : Launch) : ek_ok l tQ iG kq_2450 := ek_good_ok (sp := sG) (K := []) (SP := []) (HS := []) (N := 0) (fuel := 26) iG_hI (fun _ h => absurd h List.not_mem_nil) (by decide +kernel)
def kq_2451 : ek := (163, [.inr 86, .inl (81, 240)], [((2, 84, 18), (80, 80), none)], [], [(some (.inl ((-1), (-1))), [((2, 84, 18), (80, 80), none)])], 1, 22)
/-- LoadsAheadModel program -/
theorem qk_2451 (l : Launch) : ek_ok l tQ iG kq_2451 := ek_good_ok (sp := sG) (K := [kq_2450]) (SP := [(5, [(2, [0, 240])])]) (HS := []) (N := 0) (fuel := 30) iG_hI (List.forall_mem_cons.mpr ⟨(qk_2450 l), fun _ h => absurd h List.not_mem_nil⟩) (by decide +kernel)
def kq_2452 : ek := (131, [.inr 2, .inl (0, 64)], [((2, 1, 1), (80, 80), none)], [(1, 1)], [(some (.inl (0, 63)), [((2, 1, 1), (0, 0), none)]), (some (.inl ((-1), 63)), [((2, 1, 1), (0, 0), none)]), (some (.inl ((-1), (-1))), [((2, 1, 1), (0, 0), none)])], 1, 20)
/-- LoadsAhead check -/
theorem qk_2452 (l : Launch) : ek_ok l tQ iG kq_2452 := ek_good_ok (sp := sG) (K := [kq_103]) (SP := []) (HS := [((28, [some (.inr 2, none), some (.inl (0, 64), none), some (.inl ((-1), 63), none), some (.inl (0, 64), none)], [], [], []), [(0, (0, 0, 0), 0), (1, (1, 3, 0), 64), (0, (0, 0, 0), 0)])]) (N := 3) (fuel := 54) iG_hI (List.forall_mem_cons.mpr ⟨(ek_upS iG_hI (fun _ _ => trivial) rfl (qk_103 l)), fun _ h => absurd h List.not_mem_nil⟩) (by decide +kernel)
def kq_2453 : ek := (137, [.inl (0, 64), .inl (0, 0), .inl (64, 64)], [], [], [(some (.inl (1, 1)), [])], 0, 0)
/-- LoadsAheadModel in -/
theorem qk_2453 (l : Launch) : ek_ok l tQ iG kq_2453 := ek_good_ok (sp := sG) (K := []) (SP := []) (HS := []) (N := 0) (fuel := 26) iG_hI (fun _ h => absurd h List.not_mem_nil) (by decide +kernel)
def kq_2454 : ek := (237, [.inr 86, .inl (0, 64)], [((2, 84, 18), (80, 80), none)], [(84, 18)], [(some (.inl (0, 63)), [((2, 84, 18), (0, 0), none)]), (some (.inl ((-1), (-1))), [((2, 84, 18), (0, 0), none)])], 1, 22)
/-- LoadsAheadModel check -/
theorem qk_2454 (l : Launch) : ek_ok l tQ iG kq_2454 := ek_good_ok (sp := sG) (K := [kq_1208, kq_2453]) (SP := [(4, [(2, [(-1), 64])])]) (HS := [((28, [some (.inr 86, none), some (.inl (0, 64), none), some (.inl (0, 64), none)], [], [((2, 84, 18), (0, 0), none)], []), [(0, (0, 0, 0), 0), (1, (1, 2, 0), 64), (0, (0, 0, 0), 0)])]) (N := 3) (fuel := 38) iG_hI (List.forall_mem_cons.mpr ⟨(ek_upS iG_hI (fun _ _ => trivial) rfl (qk_1208 l)), List.forall_mem_cons.mpr ⟨(qk_2453 l), fun _ h => absurd h List.not_mem_nil⟩⟩) (by decide +kernel)
def kq_2455 : ek := (13, [.inr 3, .inl ((-2147483648), 2147483647)], [((2, 1, 1), (100, 100), none)], [(1, 1), (2, 999)], [(none, [((2, 1, 1), (104, 104), none)])], 0, 0)
/-- LoadsAhead.Tape add -/
theorem qk_2455 (l : Launch) : ek_ok l tQ iG kq_2455 := ek_good_ok (sp := sG) (K := []) (SP := []) (HS := []) (N := 0) (fuel := 210) iG_hI (fun _ h => absurd h List.not_mem_nil) (by decide +kernel)
def kq_2456 : ek := (13, [.inr 3, .inl ((-2147483648), 2147483647)], [((2, 1, 1), (104, 104), none)], [(1, 1), (2, 999)], [(none, [((2, 1, 1), (108, 108), none)])], 0, 0)
/-- LoadsAhead.Tape add -/
theorem qk_2456 (l : Launch) : ek_ok l tQ iG kq_2456 := ek_good_ok (sp := sG) (K := []) (SP := []) (HS := []) (N := 0) (fuel := 210) iG_hI (fun _ h => absurd h List.not_mem_nil) (by decide +kernel)
def kq_2457 : ek := (13, [.inr 3, .inl ((-2147483648), 2147483647)], [((2, 1, 1), (108, 108), none)], [(1, 1), (2, 999)], [(none, [((2, 1, 1), (112, 112), none)])], 0, 0)
/-- LoadsAhead.Tape add -/
theorem qk_2457 (l : Launch) : ek_ok l tQ iG kq_2457 := ek_good_ok (sp := sG) (K := []) (SP := []) (HS := []) (N := 0) (fuel := 210) iG_hI (fun _ h => absurd h List.not_mem_nil) (by decide +kernel)
def kq_2458 : ek := (13, [.inr 3, .inl ((-2147483648), 2147483647)], [((2, 1, 1), (112, 112), none)], [(1, 1), (2, 999)], [(none, [((2, 1, 1), (116, 116), none)])], 0, 0)
/-- LoadsAhead.Tape add -/
theorem qk_2458 (l : Launch) : ek_ok l tQ iG kq_2458 := ek_good_ok (sp := sG) (K := []) (SP := []) (HS := []) (N := 0) (fuel := 210) iG_hI (fun _ h => absurd h List.not_mem_nil) (by decide +kernel)
def kq_2459 : ek := (13, [.inr 3, .inl ((-2147483648), 2147483647)], [((2, 1, 1), (116, 116), none)], [(1, 1), (2, 999)], [(none, [((2, 1, 1), (120, 120), none)])], 0, 0)
/-- LoadsAhead.Tape add -/
theorem qk_2459 (l : Launch) : ek_ok l tQ iG kq_2459 := ek_good_ok (sp := sG) (K := []) (SP := []) (HS := []) (N := 0) (fuel := 210) iG_hI (fun _ h => absurd h List.not_mem_nil) (by decide +kernel)
def kq_2460 : ek := (12, [.inr 2, .inl ((-2147483648), 2147483647), .inl ((-2147483648), 2147483647), .inl ((-2147483648), 2147483647), .inl ((-2147483648), 2147483647), .inl ((-2147483648), 2147483647)], [((2, 1, 1), (100, 100), none)], [(1, 1), (2, 999)], [(some (.inl (120, 120)), [((2, 1, 1), (120, 120), none)])], 1, 22)
/-- LoadsAhead feed -/
theorem qk_2460 (l : Launch) : ek_ok l tQ iG kq_2460 := ek_good_ok (sp := sG) (K := [kq_2455, kq_2456, kq_2457, kq_2458, kq_2459]) (SP := []) (HS := []) (N := 0) (fuel := 70) iG_hI (List.forall_mem_cons.mpr ⟨(qk_2455 l), List.forall_mem_cons.mpr ⟨(qk_2456 l), List.forall_mem_cons.mpr ⟨(qk_2457 l), List.forall_mem_cons.mpr ⟨(qk_2458 l), List.forall_mem_cons.mpr ⟨(qk_2459 l), fun _ h => absurd h List.not_mem_nil⟩⟩⟩⟩⟩) (by decide +kernel)
def kq_2461 : ek := (140, [.inr 86, .inl ((-2147483648), 2147483647)], [((2, 84, 18), (100, 100), none)], [(84, 18), (96, 999)], [(none, [((2, 84, 18), (104, 104), none)])], 0, 0)
/-- LoadsAheadModel types -/
theorem qk_2461 (l : Launch) : ek_ok l tQ iG kq_2461 := ek_good_ok (sp := sG) (K := []) (SP := []) (HS := []) (N := 0) (fuel := 186) iG_hI (fun _ h => absurd h List.not_mem_nil) (by decide +kernel)
