def kq_2402 : ek := (237, [.inr 86, .inl (0, 40)], [((2, 84, 18), (40, 40), none)], [(84, 18)], [(some (.inl (0, 39)), [((2, 84, 18), (0, 0), none)]), (some (.inl ((-1), (-1))), [((2, 84, 18), (0, 0), none)])], 1, 22)
/-- LoadsAheadModel check -/
theorem qk_2402 (l : Launch) : ek_ok l tQ iG kq_2402 := ek_good_ok (sp := sG) (K := [kq_2401, kq_1208]) (SP := [(4, [(2, [(-1), 64])])]) (HS := [((28, [some (.inr 86, none), some (.inl (0, 40), none), some (.inl (0, 63), none)], [], [((2, 84, 18), (0, 0), none)], []), [(0, (0, 0, 0), 0), (1, (1, 2, 0), 63), (0, (0, 0, 0), 0)])]) (N := 3) (fuel := 38) iG_hI (List.forall_mem_cons.mpr ⟨(qk_2401 l), List.forall_mem_cons.mpr ⟨(ek_upS iG_hI (fun _ _ => trivial) rfl (qk_1208 l)), fun _ h => absurd h List.not_mem_nil⟩⟩) (by decide +kernel)
def kq_2403 : ek := (131, [.inr 2, .inl (41, 64)], [((2, 1, 1), (40, 40), none)], [], [(some (.inl ((-2), (-2))), [((2, 1, 1), (40, 40), none)])], 0, 0)
/-- LoadsAhead check -/
theorem qk_2403 (l : Launch) : ek_ok l tQ iG kq_2403 := ek_good_ok (sp := sG) (K := []) (SP := []) (HS := []) (N := 0) (fuel := 32) iG_hI (fun _ h => absurd h List.not_mem_nil) (by decide +kernel)
def kq_2404 : ek := (137, [.inl (41, 64), .inl (0, 0), .inl (64, 64)], [], [], [(some (.inl (1, 1)), [])], 0, 0)
/-- LoadsAheadModel in -/
theorem qk_2404 (l : Launch) : ek_ok l tQ iG kq_2404 := ek_good_ok (sp := sG) (K := []) (SP := []) (HS := []) (N := 0) (fuel := 26) iG_hI (fun _ h => absurd h List.not_mem_nil) (by decide +kernel)
def kq_2405 : ek := (237, [.inr 86, .inl (41, 64)], [((2, 84, 18), (40, 40), none)], [], [(some (.inl ((-2), (-2))), [((2, 84, 18), (40, 40), none)])], 1, 22)
/-- LoadsAheadModel check -/
theorem qk_2405 (l : Launch) : ek_ok l tQ iG kq_2405 := ek_good_ok (sp := sG) (K := [kq_2404]) (SP := [(4, [(2, [(-1), 64])])]) (HS := []) (N := 0) (fuel := 30) iG_hI (List.forall_mem_cons.mpr ⟨(qk_2404 l), fun _ h => absurd h List.not_mem_nil⟩) (by decide +kernel)
def kq_2406 : ek := (13, [.inr 3, .inl ((-2147483648), 2147483647)], [((2, 1, 1), (60, 60), none)], [(1, 1), (2, 999)], [(none, [((2, 1, 1), (64, 64), none)])], 0, 0)
/-- LoadsAhead.Tape add -/
theorem qk_2406 (l : Launch) : ek_ok l tQ iG kq_2406 := ek_good_ok (sp := sG) (K := []) (SP := []) (HS := []) (N := 0) (fuel := 210) iG_hI (fun _ h => absurd h List.not_mem_nil) (by decide +kernel)
def kq_2407 : ek := (13, [.inr 3, .inl ((-2147483648), 2147483647)], [((2, 1, 1), (64, 64), none)], [(1, 1), (2, 999)], [(none, [((2, 1, 1), (68, 68), none)])], 0, 0)
/-- LoadsAhead.Tape add -/
theorem qk_2407 (l : Launch) : ek_ok l tQ iG kq_2407 := ek_good_ok (sp := sG) (K := []) (SP := []) (HS := []) (N := 0) (fuel := 210) iG_hI (fun _ h => absurd h List.not_mem_nil) (by decide +kernel)
def kq_2408 : ek := (13, [.inr 3, .inl ((-2147483648), 2147483647)], [((2, 1, 1), (68, 68), none)], [(1, 1), (2, 999)], [(none, [((2, 1, 1), (72, 72), none)])], 0, 0)
/-- LoadsAhead.Tape add -/
theorem qk_2408 (l : Launch) : ek_ok l tQ iG kq_2408 := ek_good_ok (sp := sG) (K := []) (SP := []) (HS := []) (N := 0) (fuel := 210) iG_hI (fun _ h => absurd h List.not_mem_nil) (by decide +kernel)
def kq_2409 : ek := (13, [.inr 3, .inl ((-2147483648), 2147483647)], [((2, 1, 1), (72, 72), none)], [(1, 1), (2, 999)], [(none, [((2, 1, 1), (76, 76), none)])], 0, 0)
/-- LoadsAhead.Tape add -/
theorem qk_2409 (l : Launch) : ek_ok l tQ iG kq_2409 := ek_good_ok (sp := sG) (K := []) (SP := []) (HS := []) (N := 0) (fuel := 210) iG_hI (fun _ h => absurd h List.not_mem_nil) (by decide +kernel)
def kq_2410 : ek := (13, [.inr 3, .inl ((-2147483648), 2147483647)], [((2, 1, 1), (76, 76), none)], [(1, 1), (2, 999)], [(none, [((2, 1, 1), (80, 80), none)])], 0, 0)
/-- LoadsAhead.Tape add -/
theorem qk_2410 (l : Launch) : ek_ok l tQ iG kq_2410 := ek_good_ok (sp := sG) (K := []) (SP := []) (HS := []) (N := 0) (fuel := 210) iG_hI (fun _ h => absurd h List.not_mem_nil) (by decide +kernel)
def kq_2411 : ek := (12, [.inr 2, .inl ((-2147483648), 2147483647), .inl ((-2147483648), 2147483647), .inl ((-2147483648), 2147483647), .inl ((-2147483648), 2147483647), .inl ((-2147483648), 2147483647)], [((2, 1, 1), (60, 60), none)], [(1, 1), (2, 999)], [(some (.inl (80, 80)), [((2, 1, 1), (80, 80), none)])], 1, 22)
/-- LoadsAhead feed -/
theorem qk_2411 (l : Launch) : ek_ok l tQ iG kq_2411 := ek_good_ok (sp := sG) (K := [kq_2406, kq_2407, kq_2408, kq_2409, kq_2410]) (SP := []) (HS := []) (N := 0) (fuel := 70) iG_hI (List.forall_mem_cons.mpr ⟨(qk_2406 l), List.forall_mem_cons.mpr ⟨(qk_2407 l), List.forall_mem_cons.mpr ⟨(qk_2408 l), List.forall_mem_cons.mpr ⟨(qk_2409 l), List.forall_mem_cons.mpr ⟨(qk_2410 l), fun _ h => absurd h List.not_mem_nil⟩⟩⟩⟩⟩) (by decide +kernel)
def kq_2412 : ek := (140, [.inr 86, .inl ((-2147483648), 2147483647)], [((2, 84, 18), (60, 60), none)], [(84, 18), (96, 999)], [(none, [((2, 84, 18), (64, 64), none)])], 0, 0)
/-- LoadsAheadModel types -/
theorem qk_2412 (l : Launch) : ek_ok l tQ iG kq_2412 := ek_good_ok (sp := sG) (K := []) (SP := []) (HS := []) (N := 0) (fuel := 186) iG_hI (fun _ h => absurd h List.not_mem_nil) (by decide +kernel)
def kq_2413 : ek := (140, [.inr 86, .inl ((-2147483648), 2147483647)], [((2, 84, 18), (64, 64), none)], [(84, 18), (96, 999)], [(none, [((2, 84, 18), (68, 68), none)])], 0, 0)
/-- LoadsAheadModel types -/
theorem qk_2413 (l : Launch) : ek_ok l tQ iG kq_2413 := ek_good_ok (sp := sG) (K := []) (SP := []) (HS := []) (N := 0) (fuel := 186) iG_hI (fun _ h => absurd h List.not_mem_nil) (by decide +kernel)
def kq_2414 : ek := (140, [.inr 86, .inl ((-2147483648), 2147483647)], [((2, 84, 18), (68, 68), none)], [(84, 18), (96, 999)], [(none, [((2, 84, 18), (72, 72), none)])], 0, 0)
/-- LoadsAheadModel types -/
theorem qk_2414 (l : Launch) : ek_ok l tQ iG kq_2414 := ek_good_ok (sp := sG) (K := []) (SP := []) (HS := []) (N := 0) (fuel := 186) iG_hI (fun _ h => absurd h List.not_mem_nil) (by decide +kernel)
def kq_2415 : ek := (140, [.inr 86, .inl ((-2147483648), 2147483647)], [((2, 84, 18), (72, 72), none)], [(84, 18), (96, 999)], [(none, [((2, 84, 18), (76, 76), none)])], 0, 0)
/-- LoadsAheadModel types -/
theorem qk_2415 (l : Launch) : ek_ok l tQ iG kq_2415 := ek_good_ok (sp := sG) (K := []) (SP := []) (HS := []) (N := 0) (fuel := 186) iG_hI (fun _ h => absurd h List.not_mem_nil) (by decide +kernel)
def kq_2416 : ek := (140, [.inr 86, .inl ((-2147483648), 2147483647)], [((2, 84, 18), (76, 76), none)], [(84, 18), (96, 999)], [(none, [((2, 84, 18), (80, 80), none)])], 0, 0)
/-- LoadsAheadModel types -/
theorem qk_2416 (l : Launch) : ek_ok l tQ iG kq_2416 := ek_good_ok (sp := sG) (K := []) (SP := []) (HS := []) (N := 0) (fuel := 186) iG_hI (fun _ h => absurd h List.not_mem_nil) (by decide +kernel)
def kq_2417 : ek := (139, [.inr 86, .inl ((-2147483648), 2147483647), .inl ((-2147483648), 2147483647), .inl ((-2147483648), 2147483647), .inl ((-2147483648), 2147483647), .inl ((-2147483648), 2147483647)], [((2, 84, 18), (60, 60), none)], [(84, 18), (96, 999)], [(some (.inl (80, 80)), [((2, 84, 18), (80, 80), none)])], 1, 22)
/-- LoadsAheadModel feed -/
theorem qk_2417 (l : Launch) : ek_ok l tQ iG kq_2417 := ek_good_ok (sp := sG) (K := [kq_2412, kq_2413, kq_2414, kq_2415, kq_2416]) (SP := []) (HS := []) (N := 0) (fuel := 56) iG_hI (List.forall_mem_cons.mpr ⟨(qk_2412 l), List.forall_mem_cons.mpr ⟨(qk_2413 l), List.forall_mem_cons.mpr ⟨(qk_2414 l), List.forall_mem_cons.mpr ⟨(qk_2415 l), List.forall_mem_cons.mpr ⟨(qk_2416 l), fun _ h => absurd h List.not_mem_nil⟩⟩⟩⟩⟩) (by decide +kernel)
def kq_2418 : ek := (14, [.inr 2, .inl (1, 60)], [((2, 1, 1), (60, 60), none)], [(1, 1), (1, 2), (1, 3), (1, 4), (16, 7), (17, 999), (18, 999), (19, 999), (20, 999), (21, 999), (57, 7), (57, 8), (58, 999), (59, 999), (60, 999), (61, 999), (62, 999)], [(some (.inl (0, 2147483647)), [((2, 1, 1), (0, 0), none), ((2, 1, 2), (0, 63), none)]), (some (.inl ((-2147483648), (-1))), [((2, 1, 1), (0, 0), none), ((2, 1, 2), (0, 63), none)])], 29, 749)
/-- LoadsAhead law -/
theorem qk_2418 (l : Launch) : ek_ok l tQ iG kq_2418 := ek_good_ok (sp := sG) (K := [kq_2040, kq_102, kq_103, kq_2390]) (SP := []) (HS := []) (N := 0) (fuel := 76) iG_hI (List.forall_mem_cons.mpr ⟨(qk_2040 l), List.forall_mem_cons.mpr ⟨(cf l), List.forall_mem_cons.mpr ⟨(ek_upS iG_hI (fun _ _ => trivial) rfl (qk_103 l)), List.forall_mem_cons.mpr ⟨(qk_2390 l), fun _ h => absurd h List.not_mem_nil⟩⟩⟩⟩) (by decide +kernel)
def kq_2419 : ek := (14, [.inr 2, .inl (61, 240)], [((2, 1, 1), (60, 60), none)], [], [(some (.inl ((-1), (-1))), [((2, 1, 1), (60, 60), none)])], 0, 0)
/-- LoadsAhead law -/
theorem qk_2419 (l : Launch) : ek_ok l tQ iG kq_2419 := ek_good_ok (sp := sG) (K := []) (SP := []) (HS := []) (N := 0) (fuel := 34) iG_hI (fun _ h => absurd h List.not_mem_nil) (by decide +kernel)
def kq_2420 : ek := (40, [.inr 2, .inl (1, 60)], [((2, 1, 1), (60, 60), none)], [(0, 8), (0, 10), (1, 1), (1, 2), (1, 3), (1, 4), (4, 11), (4, 12), (5, 999), (6, 999), (7, 999), (8, 999), (9, 999), (10, 999), (11, 999), (12, 999), (13, 999), (24, 3), (27, 999), (45, 11), (45, 12), (46, 999), (47, 999), (48, 999), (49, 999), (50, 999), (51, 999), (52, 999), (53, 999), (54, 999), (55, 999), (56, 999), (83, 999)], [(some (.inl (0, 2147483647)), [((2, 0, 8), (0, 0), none), ((2, 0, 10), (1, 1), none), ((2, 1, 1), (0, 0), none), ((2, 1, 2), (0, 63), none), ((2, 24, 3), (0, 0), none)]), (some (.inl ((-2147483648), (-1))), [((2, 1, 1), (0, 0), none), ((2, 1, 2), (0, 63), none)])], 7, 153)
/-- LoadsAhead program -/
theorem qk_2420 (l : Launch) : ek_ok l tQ iG kq_2420 := ek_good_ok (sp := sG) (K := [kq_103, kq_138, kq_139, kq_141, kq_143, kq_2390]) (SP := []) (HS := []) (N := 0) (fuel := 112) iG_hI (List.forall_mem_cons.mpr ⟨(ek_upS iG_hI (fun _ _ => trivial) rfl (qk_103 l)), List.forall_mem_cons.mpr ⟨(ek_upS iG_hI (fun _ _ => trivial) rfl (qk_138 l)), List.forall_mem_cons.mpr ⟨(ek_upS iG_hI (fun _ _ => trivial) rfl (qk_139 l)), List.forall_mem_cons.mpr ⟨(ek_upS iG_hI (fun _ _ => trivial) rfl (qk_141 l)), List.forall_mem_cons.mpr ⟨(ek_upS iG_hI (fun _ _ => trivial) rfl (qk_143 l)), List.forall_mem_cons.mpr ⟨(qk_2390 l), fun _ h => absurd h List.not_mem_nil⟩⟩⟩⟩⟩⟩) (by decide +kernel)
def kq_2421 : ek := (137, [.inl (1, 60), .inl (1, 1), .inl (240, 240)], [], [], [(some (.inl (1, 1)), [])], 0, 0)
/-- LoadsAheadModel in -/
theorem qk_2421 (l : Launch) : ek_ok l tQ iG kq_2421 := ek_good_ok (sp := sG) (K := []) (SP := []) (HS := []) (N := 0) (fuel := 26) iG_hI (fun _ h => absurd h List.not_mem_nil) (by decide +kernel)
def kq_2422 : ek := (163, [.inr 86, .inl (1, 60)], [((2, 84, 18), (60, 60), none)], [(84, 2), (84, 3), (84, 5), (84, 18), (84, 19), (84, 20), (84, 21), (84, 22), (84, 24), (84, 26), (84, 41), (84, 75), (87, 999), (88, 999), (89, 999), (90, 999), (91, 999), (92, 999), (93, 999), (94, 999), (95, 999), (110, 999), (111, 999), (112, 999), (113, 999), (114, 999), (115, 999), (116, 999), (117, 999), (145, 999)], [(some (.inl ((-2147483648), 2147483647)), [((2, 84, 18), (0, 0), none), ((2, 84, 20), (0, 63), none), ((2, 84, 24), (0, 0), none), ((2, 84, 26), (0, 0), none)]), (some (.inl (0, 20)), [((2, 84, 3), (0, 0), none), ((2, 84, 18), (0, 0), none), ((2, 84, 75), (0, 0), none)])], 5, 104)
/-- LoadsAheadModel program -/
theorem qk_2422 (l : Launch) : ek_ok l tQ iG kq_2422 := ek_good_ok (sp := sG) (K := [kq_2053, kq_2055, kq_2057, kq_2059, kq_2061, kq_2063, kq_2065, kq_2067, kq_2069, kq_2071, kq_2073, kq_2075, kq_2077, kq_223, kq_2079, kq_2081, kq_2083, kq_2085, kq_2087, kq_2089, kq_2091, kq_186, kq_2421, kq_2395]) (SP := [(5, [(2, [0, 240])])]) (HS := [((100, [some (.inr 86, none), some (.inl (1, 60), none), some (.inl (1, 1), none), some (.inl (0, 20), none)], [], [((2, 84, 18), (0, 0), none)], []), [(0, (0, 0, 0), 0), (1, (1, 3, 0), 20), (0, (0, 0, 0), 0)])]) (N := 3) (fuel := 782) iG_hI (List.forall_mem_cons.mpr ⟨(qk_2053 l), List.forall_mem_cons.mpr ⟨(qk_2055 l), List.forall_mem_cons.mpr ⟨(qk_2057 l), List.forall_mem_cons.mpr ⟨(qk_2059 l), List.forall_mem_cons.mpr ⟨(qk_2061 l), List.forall_mem_cons.mpr ⟨(qk_2063 l), List.forall_mem_cons.mpr ⟨(qk_2065 l), List.forall_mem_cons.mpr ⟨(qk_2067 l), List.forall_mem_cons.mpr ⟨(qk_2069 l), List.forall_mem_cons.mpr ⟨(qk_2071 l), List.forall_mem_cons.mpr ⟨(qk_2073 l), List.forall_mem_cons.mpr ⟨(qk_2075 l), List.forall_mem_cons.mpr ⟨(qk_2077 l), List.forall_mem_cons.mpr ⟨(ek_upS iG_hI (fun _ _ => trivial) rfl (qk_223 l)), List.forall_mem_cons.mpr ⟨(qk_2079 l), List.forall_mem_cons.mpr ⟨(qk_2081 l), List.forall_mem_cons.mpr ⟨(qk_2083 l), List.forall_mem_cons.mpr ⟨(qk_2085 l), List.forall_mem_cons.mpr ⟨(qk_2087 l), List.forall_mem_cons.mpr ⟨(qk_2089 l), List.forall_mem_cons.mpr ⟨(qk_2091 l), List.forall_mem_cons.mpr ⟨(ek_upS iG_hI (fun _ _ => trivial) rfl (qk_186 l)), List.forall_mem_cons.mpr ⟨(qk_2421 l), List.forall_mem_cons.mpr ⟨(qk_2395 l), fun _ h => absurd h List.not_mem_nil⟩⟩⟩⟩⟩⟩⟩⟩⟩⟩⟩⟩⟩⟩⟩⟩⟩⟩⟩⟩⟩⟩⟩⟩) (by decide +kernel)
def kq_2423 : ek := (40, [.inr 2, .inl (61, 240)], [((2, 1, 1), (60, 60), none)], [], [(some (.inl ((-1), (-1))), [((2, 1, 1), (60, 60), none)])], 0, 0)
/-- LoadsAhead program -/
theorem qk_2423 (l : Launch) : ek_ok l tQ iG kq_2423 := ek_good_ok (sp := sG) (K := []) (SP := []) (HS := []) (N := 0) (fuel := 34) iG_hI (fun _ h => absurd h List.not_mem_nil) (by decide +kernel)
def kq_2424 : ek := (137, [.inl (61, 240), .inl (1, 1), .inl (240, 240)], [], [], [(some (.inl (1, 1)), [])], 0, 0)
/-- LoadsAheadModel in -/
theorem qk_2424 (l : Launch) : ek_ok l tQ iG kq_2424 := ek_good_ok (sp := sG) (K := []) (SP := []) (HS := []) (N := 0) (fuel := 26) iG_hI (fun _ h => absurd h List.not_mem_nil) (by decide +kernel)
def kq_2425 : ek := (163, [.inr 86, .inl (61, 240)], [((2, 84, 18), (60, 60), none)], [], [(some (.inl ((-1), (-1))), [((2, 84, 18), (60, 60), none)])], 1, 22)
/-- LoadsAheadModel program -/
theorem qk_2425 (l : Launch) : ek_ok l tQ iG kq_2425 := ek_good_ok (sp := sG) (K := [kq_2424]) (SP := [(5, [(2, [0, 240])])]) (HS := []) (N := 0) (fuel := 30) iG_hI (List.forall_mem_cons.mpr ⟨(qk_2424 l), fun _ h => absurd h List.not_mem_nil⟩) (by decide +kernel)
def kq_2426 : ek := (131, [.inr 2, .inl (0, 60)], [((2, 1, 1), (60, 60), none)], [(1, 1)], [(some (.inl (0, 63)), [((2, 1, 1), (0, 0), none)]), (some (.inl ((-1), 63)), [((2, 1, 1), (0, 0), none)]), (some (.inl ((-1), (-1))), [((2, 1, 1), (0, 0), none)])], 1, 20)
/-- LoadsAhead check -/
theorem qk_2426 (l : Launch) : ek_ok l tQ iG kq_2426 := ek_good_ok (sp := sG) (K := [kq_103]) (SP := []) (HS := [((28, [some (.inr 2, none), some (.inl (0, 60), none), some (.inl ((-1), 63), none), some (.inl (0, 63), none)], [], [], []), [(0, (0, 0, 0), 0), (1, (1, 3, 0), 63), (0, (0, 0, 0), 0)])]) (N := 3) (fuel := 54) iG_hI (List.forall_mem_cons.mpr ⟨(ek_upS iG_hI (fun _ _ => trivial) rfl (qk_103 l)), fun _ h => absurd h List.not_mem_nil⟩) (by decide +kernel)
def kq_2427 : ek := (137, [.inl (0, 60), .inl (0, 0), .inl (64, 64)], [], [], [(some (.inl (1, 1)), [])], 0, 0)
/-- LoadsAheadModel in -/
theorem qk_2427 (l : Launch) : ek_ok l tQ iG kq_2427 := ek_good_ok (sp := sG) (K := []) (SP := []) (HS := []) (N := 0) (fuel := 26) iG_hI (fun _ h => absurd h List.not_mem_nil) (by decide +kernel)
def kq_2428 : ek := (237, [.inr 86, .inl (0, 60)], [((2, 84, 18), (60, 60), none)], [(84, 18)], [(some (.inl (0, 59)), [((2, 84, 18), (0, 0), none)]), (some (.inl ((-1), (-1))), [((2, 84, 18), (0, 0), none)])], 1, 22)
/-- LoadsAheadModel check -/
theorem qk_2428 (l : Launch) : ek_ok l tQ iG kq_2428 := ek_good_ok (sp := sG) (K := [kq_2427, kq_1208]) (SP := [(4, [(2, [(-1), 64])])]) (HS := [((28, [some (.inr 86, none), some (.inl (0, 60), none), some (.inl (0, 63), none)], [], [((2, 84, 18), (0, 0), none)], []), [(0, (0, 0, 0), 0), (1, (1, 2, 0), 63), (0, (0, 0, 0), 0)])]) (N := 3) (fuel := 38) iG_hI (List.forall_mem_cons.mpr ⟨(qk_2427 l), List.forall_mem_cons.mpr ⟨(ek_upS iG_hI (fun _ _ => trivial) rfl (qk_1208 l)), fun _ h => absurd h List.not_mem_nil⟩⟩) (by decide +kernel)
def kq_2429 : ek := (131, [.inr 2, .inl (61, 64)], [((2, 1, 1), (60, 60), none)], [], [(some (.inl ((-2), (-2))), [((2, 1, 1), (60, 60), none)])], 0, 0)
/-- LoadsAhead check -/
theorem qk_2429 (l : Launch) : ek_ok l tQ iG kq_2429 := ek_good_ok (sp := sG) (K := []) (SP := []) (HS := []) (N := 0) (fuel := 32) iG_hI (fun _ h => absurd h List.not_mem_nil) (by decide +kernel)
def kq_2430 : ek := (137, [.inl (61, 64), .inl (0, 0), .inl (64, 64)], [], [], [(some (.inl (1, 1)), [])], 0, 0)
/-- LoadsAheadModel in -/
theorem qk_2430 (l : Launch) : ek_ok l tQ iG kq_2430 := ek_good_ok (sp := sG) (K := []) (SP := []) (HS := []) (N := 0) (fuel := 26) iG_hI (fun _ h => absurd h List.not_mem_nil) (by decide +kernel)
def kq_2431 : ek := (237, [.inr 86, .inl (61, 64)], [((2, 84, 18), (60, 60), none)], [], [(some (.inl ((-2), (-2))), [((2, 84, 18), (60, 60), none)])], 1, 22)
/-- LoadsAheadModel check -/
theorem qk_2431 (l : Launch) : ek_ok l tQ iG kq_2431 := ek_good_ok (sp := sG) (K := [kq_2430]) (SP := [(4, [(2, [(-1), 64])])]) (HS := []) (N := 0) (fuel := 30) iG_hI (List.forall_mem_cons.mpr ⟨(qk_2430 l), fun _ h => absurd h List.not_mem_nil⟩) (by decide +kernel)
def kq_2432 : ek := (13, [.inr 3, .inl ((-2147483648), 2147483647)], [((2, 1, 1), (80, 80), none)], [(1, 1), (2, 999)], [(none, [((2, 1, 1), (84, 84), none)])], 0, 0)
/-- LoadsAhead.Tape add -/
theorem qk_2432 (l : Launch) : ek_ok l tQ iG kq_2432 := ek_good_ok (sp := sG) (K := []) (SP := []) (HS := []) (N := 0) (fuel := 210) iG_hI (fun _ h => absurd h List.not_mem_nil) (by decide +kernel)
def kq_2433 : ek := (13, [.inr 3, .inl ((-2147483648), 2147483647)], [((2, 1, 1), (84, 84), none)], [(1, 1), (2, 999)], [(none, [((2, 1, 1), (88, 88), none)])], 0, 0)
/-- LoadsAhead.Tape add -/
theorem qk_2433 (l : Launch) : ek_ok l tQ iG kq_2433 := ek_good_ok (sp := sG) (K := []) (SP := []) (HS := []) (N := 0) (fuel := 210) iG_hI (fun _ h => absurd h List.not_mem_nil) (by decide +kernel)
