def kq_2369 : ek := (40, [.inr 2, .inl (21, 240)], [((2, 1, 1), (20, 20), none)], [], [(some (.inl ((-1), (-1))), [((2, 1, 1), (20, 20), none)])], 0, 0)
/-- LoadsAhead program -/
theorem qk_2369 (l : Launch) : ek_ok l tQ iG kq_2369 := ek_good_ok (sp := sG) (K := []) (SP := []) (HS := []) (N := 0) (fuel := 34) iG_hI (fun _ h => absurd h List.not_mem_nil) (by decide +kernel)
def kq_2370 : ek := (137, [.inl (21, 240), .inl (1, 1), .inl (240, 240)], [], [], [(some (.inl (1, 1)), [])], 0, 0)
/-- LoadsAheadModel in -/
theorem qk_2370 (l : Launch) : ek_ok l tQ iG kq_2370 := ek_good_ok (sp := sG) (K := []) (SP := []) (HS := []) (N := 0) (fuel := 26) iG_hI (fun _ h => absurd h List.not_mem_nil) (by decide +kernel)
def kq_2371 : ek := (163, [.inr 86, .inl (21, 240)], [((2, 84, 18), (20, 20), none)], [], [(some (.inl ((-1), (-1))), [((2, 84, 18), (20, 20), none)])], 1, 22)
/-- LoadsAheadModel program -/
theorem qk_2371 (l : Launch) : ek_ok l tQ iG kq_2371 := ek_good_ok (sp := sG) (K := [kq_2370]) (SP := [(5, [(2, [0, 240])])]) (HS := []) (N := 0) (fuel := 30) iG_hI (List.forall_mem_cons.mpr ⟨(qk_2370 l), fun _ h => absurd h List.not_mem_nil⟩) (by decide +kernel)
def kq_2372 : ek := (131, [.inr 2, .inl (0, 20)], [((2, 1, 1), (20, 20), none)], [(1, 1)], [(some (.inl (0, 19)), [((2, 1, 1), (0, 0), none)]), (some (.inl ((-1), 19)), [((2, 1, 1), (0, 0), none)]), (some (.inl ((-1), (-1))), [((2, 1, 1), (0, 0), none)])], 1, 20)
/-- LoadsAhead check -/
theorem qk_2372 (l : Launch) : ek_ok l tQ iG kq_2372 := ek_good_ok (sp := sG) (K := [kq_103]) (SP := []) (HS := [((28, [some (.inr 2, none), some (.inl (0, 20), none), some (.inl ((-1), 19), none), some (.inl (0, 20), none)], [], [], []), [(0, (0, 0, 0), 0), (1, (1, 3, 0), 20), (0, (0, 0, 0), 0)])]) (N := 3) (fuel := 54) iG_hI (List.forall_mem_cons.mpr ⟨(ek_upS iG_hI (fun _ _ => trivial) rfl (qk_103 l)), fun _ h => absurd h List.not_mem_nil⟩) (by decide +kernel)
def kq_2373 : ek := (137, [.inl (0, 20), .inl (0, 0), .inl (64, 64)], [], [], [(some (.inl (1, 1)), [])], 0, 0)
/-- LoadsAheadModel in -/
theorem qk_2373 (l : Launch) : ek_ok l tQ iG kq_2373 := ek_good_ok (sp := sG) (K := []) (SP := []) (HS := []) (N := 0) (fuel := 26) iG_hI (fun _ h => absurd h List.not_mem_nil) (by decide +kernel)
def kq_2374 : ek := (237, [.inr 86, .inl (0, 20)], [((2, 84, 18), (20, 20), none)], [(84, 18)], [(some (.inl (0, 19)), [((2, 84, 18), (0, 0), none)]), (some (.inl ((-1), (-1))), [((2, 84, 18), (0, 0), none)])], 1, 22)
/-- LoadsAheadModel check -/
theorem qk_2374 (l : Launch) : ek_ok l tQ iG kq_2374 := ek_good_ok (sp := sG) (K := [kq_1215, kq_2373]) (SP := [(4, [(2, [(-1), 64])])]) (HS := [((28, [some (.inr 86, none), some (.inl (0, 20), none), some (.inl (0, 20), none)], [], [((2, 84, 18), (0, 0), none)], []), [(0, (0, 0, 0), 0), (1, (1, 2, 0), 20), (0, (0, 0, 0), 0)])]) (N := 3) (fuel := 38) iG_hI (List.forall_mem_cons.mpr ⟨(ek_upS iG_hI (fun _ _ => trivial) rfl (qk_1215 l)), List.forall_mem_cons.mpr ⟨(qk_2373 l), fun _ h => absurd h List.not_mem_nil⟩⟩) (by decide +kernel)
def kq_2375 : ek := (131, [.inr 2, .inl (21, 64)], [((2, 1, 1), (20, 20), none)], [], [(some (.inl ((-2), (-2))), [((2, 1, 1), (20, 20), none)])], 0, 0)
/-- LoadsAhead check -/
theorem qk_2375 (l : Launch) : ek_ok l tQ iG kq_2375 := ek_good_ok (sp := sG) (K := []) (SP := []) (HS := []) (N := 0) (fuel := 32) iG_hI (fun _ h => absurd h List.not_mem_nil) (by decide +kernel)
def kq_2376 : ek := (137, [.inl (21, 64), .inl (0, 0), .inl (64, 64)], [], [], [(some (.inl (1, 1)), [])], 0, 0)
/-- LoadsAheadModel in -/
theorem qk_2376 (l : Launch) : ek_ok l tQ iG kq_2376 := ek_good_ok (sp := sG) (K := []) (SP := []) (HS := []) (N := 0) (fuel := 26) iG_hI (fun _ h => absurd h List.not_mem_nil) (by decide +kernel)
def kq_2377 : ek := (237, [.inr 86, .inl (21, 64)], [((2, 84, 18), (20, 20), none)], [], [(some (.inl ((-2), (-2))), [((2, 84, 18), (20, 20), none)])], 1, 22)
/-- LoadsAheadModel check -/
theorem qk_2377 (l : Launch) : ek_ok l tQ iG kq_2377 := ek_good_ok (sp := sG) (K := [kq_2376]) (SP := [(4, [(2, [(-1), 64])])]) (HS := []) (N := 0) (fuel := 30) iG_hI (List.forall_mem_cons.mpr ⟨(qk_2376 l), fun _ h => absurd h List.not_mem_nil⟩) (by decide +kernel)
def kq_2378 : ek := (13, [.inr 3, .inl ((-2147483648), 2147483647)], [((2, 1, 1), (40, 40), none)], [(1, 1), (2, 999)], [(none, [((2, 1, 1), (44, 44), none)])], 0, 0)
/-- LoadsAhead.Tape add -/
theorem qk_2378 (l : Launch) : ek_ok l tQ iG kq_2378 := ek_good_ok (sp := sG) (K := []) (SP := []) (HS := []) (N := 0) (fuel := 210) iG_hI (fun _ h => absurd h List.not_mem_nil) (by decide +kernel)
def kq_2379 : ek := (13, [.inr 3, .inl ((-2147483648), 2147483647)], [((2, 1, 1), (44, 44), none)], [(1, 1), (2, 999)], [(none, [((2, 1, 1), (48, 48), none)])], 0, 0)
/-- LoadsAhead.Tape add -/
theorem qk_2379 (l : Launch) : ek_ok l tQ iG kq_2379 := ek_good_ok (sp := sG) (K := []) (SP := []) (HS := []) (N := 0) (fuel := 210) iG_hI (fun _ h => absurd h List.not_mem_nil) (by decide +kernel)
def kq_2380 : ek := (13, [.inr 3, .inl ((-2147483648), 2147483647)], [((2, 1, 1), (48, 48), none)], [(1, 1), (2, 999)], [(none, [((2, 1, 1), (52, 52), none)])], 0, 0)
/-- LoadsAhead.Tape add -/
theorem qk_2380 (l : Launch) : ek_ok l tQ iG kq_2380 := ek_good_ok (sp := sG) (K := []) (SP := []) (HS := []) (N := 0) (fuel := 210) iG_hI (fun _ h => absurd h List.not_mem_nil) (by decide +kernel)
def kq_2381 : ek := (13, [.inr 3, .inl ((-2147483648), 2147483647)], [((2, 1, 1), (52, 52), none)], [(1, 1), (2, 999)], [(none, [((2, 1, 1), (56, 56), none)])], 0, 0)
/-- LoadsAhead.Tape add -/
theorem qk_2381 (l : Launch) : ek_ok l tQ iG kq_2381 := ek_good_ok (sp := sG) (K := []) (SP := []) (HS := []) (N := 0) (fuel := 210) iG_hI (fun _ h => absurd h List.not_mem_nil) (by decide +kernel)
def kq_2382 : ek := (13, [.inr 3, .inl ((-2147483648), 2147483647)], [((2, 1, 1), (56, 56), none)], [(1, 1), (2, 999)], [(none, [((2, 1, 1), (60, 60), none)])], 0, 0)
/-- LoadsAhead.Tape add -/
theorem qk_2382 (l : Launch) : ek_ok l tQ iG kq_2382 := ek_good_ok (sp := sG) (K := []) (SP := []) (HS := []) (N := 0) (fuel := 210) iG_hI (fun _ h => absurd h List.not_mem_nil) (by decide +kernel)
def kq_2383 : ek := (12, [.inr 2, .inl ((-2147483648), 2147483647), .inl ((-2147483648), 2147483647), .inl ((-2147483648), 2147483647), .inl ((-2147483648), 2147483647), .inl ((-2147483648), 2147483647)], [((2, 1, 1), (40, 40), none)], [(1, 1), (2, 999)], [(some (.inl (60, 60)), [((2, 1, 1), (60, 60), none)])], 1, 22)
/-- LoadsAhead feed -/
theorem qk_2383 (l : Launch) : ek_ok l tQ iG kq_2383 := ek_good_ok (sp := sG) (K := [kq_2378, kq_2379, kq_2380, kq_2381, kq_2382]) (SP := []) (HS := []) (N := 0) (fuel := 70) iG_hI (List.forall_mem_cons.mpr ⟨(qk_2378 l), List.forall_mem_cons.mpr ⟨(qk_2379 l), List.forall_mem_cons.mpr ⟨(qk_2380 l), List.forall_mem_cons.mpr ⟨(qk_2381 l), List.forall_mem_cons.mpr ⟨(qk_2382 l), fun _ h => absurd h List.not_mem_nil⟩⟩⟩⟩⟩) (by decide +kernel)
def kq_2384 : ek := (140, [.inr 86, .inl ((-2147483648), 2147483647)], [((2, 84, 18), (40, 40), none)], [(84, 18), (96, 999)], [(none, [((2, 84, 18), (44, 44), none)])], 0, 0)
/-- LoadsAheadModel types -/
theorem qk_2384 (l : Launch) : ek_ok l tQ iG kq_2384 := ek_good_ok (sp := sG) (K := []) (SP := []) (HS := []) (N := 0) (fuel := 186) iG_hI (fun _ h => absurd h List.not_mem_nil) (by decide +kernel)
def kq_2385 : ek := (140, [.inr 86, .inl ((-2147483648), 2147483647)], [((2, 84, 18), (44, 44), none)], [(84, 18), (96, 999)], [(none, [((2, 84, 18), (48, 48), none)])], 0, 0)
/-- LoadsAheadModel types -/
theorem qk_2385 (l : Launch) : ek_ok l tQ iG kq_2385 := ek_good_ok (sp := sG) (K := []) (SP := []) (HS := []) (N := 0) (fuel := 186) iG_hI (fun _ h => absurd h List.not_mem_nil) (by decide +kernel)
def kq_2386 : ek := (140, [.inr 86, .inl ((-2147483648), 2147483647)], [((2, 84, 18), (48, 48), none)], [(84, 18), (96, 999)], [(none, [((2, 84, 18), (52, 52), none)])], 0, 0)
/-- LoadsAheadModel types -/
theorem qk_2386 (l : Launch) : ek_ok l tQ iG kq_2386 := ek_good_ok (sp := sG) (K := []) (SP := []) (HS := []) (N := 0) (fuel := 186) iG_hI (fun _ h => absurd h List.not_mem_nil) (by decide +kernel)
def kq_2387 : ek := (140, [.inr 86, .inl ((-2147483648), 2147483647)], [((2, 84, 18), (52, 52), none)], [(84, 18), (96, 999)], [(none, [((2, 84, 18), (56, 56), none)])], 0, 0)
/-- LoadsAheadModel types -/
theorem qk_2387 (l : Launch) : ek_ok l tQ iG kq_2387 := ek_good_ok (sp := sG) (K := []) (SP := []) (HS := []) (N := 0) (fuel := 186) iG_hI (fun _ h => absurd h List.not_mem_nil) (by decide +kernel)
def kq_2388 : ek := (140, [.inr 86, .inl ((-2147483648), 2147483647)], [((2, 84, 18), (56, 56), none)], [(84, 18), (96, 999)], [(none, [((2, 84, 18), (60, 60), none)])], 0, 0)
/-- LoadsAheadModel types -/
theorem qk_2388 (l : Launch) : ek_ok l tQ iG kq_2388 := ek_good_ok (sp := sG) (K := []) (SP := []) (HS := []) (N := 0) (fuel := 186) iG_hI (fun _ h => absurd h List.not_mem_nil) (by decide +kernel)
def kq_2389 : ek := (139, [.inr 86, .inl ((-2147483648), 2147483647), .inl ((-2147483648), 2147483647), .inl ((-2147483648), 2147483647), .inl ((-2147483648), 2147483647), .inl ((-2147483648), 2147483647)], [((2, 84, 18), (40, 40), none)], [(84, 18), (96, 999)], [(some (.inl (60, 60)), [((2, 84, 18), (60, 60), none)])], 1, 22)
/-- LoadsAheadModel feed -/
theorem qk_2389 (l : Launch) : ek_ok l tQ iG kq_2389 := ek_good_ok (sp := sG) (K := [kq_2384, kq_2385, kq_2386, kq_2387, kq_2388]) (SP := []) (HS := []) (N := 0) (fuel := 56) iG_hI (List.forall_mem_cons.mpr ⟨(qk_2384 l), List.forall_mem_cons.mpr ⟨(qk_2385 l), List.forall_mem_cons.mpr ⟨(qk_2386 l), List.forall_mem_cons.mpr ⟨(qk_2387 l), List.forall_mem_cons.mpr ⟨(qk_2388 l), fun _ h => absurd h List.not_mem_nil⟩⟩⟩⟩⟩) (by decide +kernel)
def kq_2390 : ek := (15, [.inr 3, .inl (0, 63)], [], [(1, 2), (1, 3), (1, 4)], [(none, [((2, 1, 2), (0, 63), none), ((2, 1, 3), (0, 0), none), ((2, 1, 4), (0, 0), none)])], 1, 16)
/-- LoadsAhead.Tape beginText -/
theorem qk_2390 (l : Launch) : ek_ok l tQ iG kq_2390 := ek_good_ok (sp := sG) (K := []) (SP := []) (HS := []) (N := 0) (fuel := 34) iG_hI (fun _ h => absurd h List.not_mem_nil) (by decide +kernel)
def kq_2391 : ek := (14, [.inr 2, .inl (1, 40)], [((2, 1, 1), (40, 40), none)], [(1, 1), (1, 2), (1, 3), (1, 4), (16, 7), (17, 999), (18, 999), (19, 999), (20, 999), (21, 999), (57, 7), (57, 8), (58, 999), (59, 999), (60, 999), (61, 999), (62, 999)], [(some (.inl (0, 2147483647)), [((2, 1, 1), (0, 0), none), ((2, 1, 2), (0, 63), none)]), (some (.inl ((-2147483648), (-1))), [((2, 1, 1), (0, 0), none), ((2, 1, 2), (0, 63), none)])], 29, 749)
/-- LoadsAhead law -/
theorem qk_2391 (l : Launch) : ek_ok l tQ iG kq_2391 := ek_good_ok (sp := sG) (K := [kq_2040, kq_102, kq_103, kq_2390]) (SP := []) (HS := []) (N := 0) (fuel := 76) iG_hI (List.forall_mem_cons.mpr ⟨(qk_2040 l), List.forall_mem_cons.mpr ⟨(cf l), List.forall_mem_cons.mpr ⟨(ek_upS iG_hI (fun _ _ => trivial) rfl (qk_103 l)), List.forall_mem_cons.mpr ⟨(qk_2390 l), fun _ h => absurd h List.not_mem_nil⟩⟩⟩⟩) (by decide +kernel)
def kq_2392 : ek := (14, [.inr 2, .inl (41, 240)], [((2, 1, 1), (40, 40), none)], [], [(some (.inl ((-1), (-1))), [((2, 1, 1), (40, 40), none)])], 0, 0)
/-- LoadsAhead law -/
theorem qk_2392 (l : Launch) : ek_ok l tQ iG kq_2392 := ek_good_ok (sp := sG) (K := []) (SP := []) (HS := []) (N := 0) (fuel := 34) iG_hI (fun _ h => absurd h List.not_mem_nil) (by decide +kernel)
def kq_2393 : ek := (40, [.inr 2, .inl (1, 40)], [((2, 1, 1), (40, 40), none)], [(0, 8), (0, 10), (1, 1), (1, 2), (1, 3), (1, 4), (4, 11), (4, 12), (5, 999), (6, 999), (7, 999), (8, 999), (9, 999), (10, 999), (11, 999), (12, 999), (13, 999), (24, 3), (27, 999), (45, 11), (45, 12), (46, 999), (47, 999), (48, 999), (49, 999), (50, 999), (51, 999), (52, 999), (53, 999), (54, 999), (55, 999), (56, 999), (83, 999)], [(some (.inl (0, 2147483647)), [((2, 0, 8), (0, 0), none), ((2, 0, 10), (1, 1), none), ((2, 1, 1), (0, 0), none), ((2, 1, 2), (0, 63), none), ((2, 24, 3), (0, 0), none)]), (some (.inl ((-2147483648), (-1))), [((2, 1, 1), (0, 0), none), ((2, 1, 2), (0, 63), none)])], 7, 153)
/-- LoadsAhead program -/
theorem qk_2393 (l : Launch) : ek_ok l tQ iG kq_2393 := ek_good_ok (sp := sG) (K := [kq_103, kq_138, kq_139, kq_141, kq_143, kq_2390]) (SP := []) (HS := []) (N := 0) (fuel := 112) iG_hI (List.forall_mem_cons.mpr ⟨(ek_upS iG_hI (fun _ _ => trivial) rfl (qk_103 l)), List.forall_mem_cons.mpr ⟨(ek_upS iG_hI (fun _ _ => trivial) rfl (qk_138 l)), List.forall_mem_cons.mpr ⟨(ek_upS iG_hI (fun _ _ => trivial) rfl (qk_139 l)), List.forall_mem_cons.mpr ⟨(ek_upS iG_hI (fun _ _ => trivial) rfl (qk_141 l)), List.forall_mem_cons.mpr ⟨(ek_upS iG_hI (fun _ _ => trivial) rfl (qk_143 l)), List.forall_mem_cons.mpr ⟨(qk_2390 l), fun _ h => absurd h List.not_mem_nil⟩⟩⟩⟩⟩⟩) (by decide +kernel)
def kq_2394 : ek := (137, [.inl (1, 40), .inl (1, 1), .inl (240, 240)], [], [], [(some (.inl (1, 1)), [])], 0, 0)
/-- LoadsAheadModel in -/
theorem qk_2394 (l : Launch) : ek_ok l tQ iG kq_2394 := ek_good_ok (sp := sG) (K := []) (SP := []) (HS := []) (N := 0) (fuel := 26) iG_hI (fun _ h => absurd h List.not_mem_nil) (by decide +kernel)
def kq_2395 : ek := (142, [.inr 86, .inl (0, 63)], [], [(84, 19), (84, 20), (84, 24), (84, 26)], [(none, [((2, 84, 19), (0, 0), none), ((2, 84, 20), (0, 63), none), ((2, 84, 24), (0, 0), none), ((2, 84, 26), (0, 0), none)])], 0, 0)
/-- LoadsAheadModel beginsText -/
theorem qk_2395 (l : Launch) : ek_ok l tQ iG kq_2395 := ek_good_ok (sp := sG) (K := []) (SP := []) (HS := []) (N := 0) (fuel := 34) iG_hI (fun _ h => absurd h List.not_mem_nil) (by decide +kernel)
def kq_2396 : ek := (163, [.inr 86, .inl (1, 40)], [((2, 84, 18), (40, 40), none)], [(84, 2), (84, 3), (84, 5), (84, 18), (84, 19), (84, 20), (84, 21), (84, 22), (84, 24), (84, 26), (84, 41), (84, 75), (87, 999), (88, 999), (89, 999), (90, 999), (91, 999), (92, 999), (93, 999), (94, 999), (95, 999), (110, 999), (111, 999), (112, 999), (113, 999), (114, 999), (115, 999), (116, 999), (117, 999), (145, 999)], [(some (.inl ((-2147483648), 2147483647)), [((2, 84, 18), (0, 0), none), ((2, 84, 20), (0, 63), none), ((2, 84, 24), (0, 0), none), ((2, 84, 26), (0, 0), none)]), (some (.inl (0, 20)), [((2, 84, 3), (0, 0), none), ((2, 84, 18), (0, 0), none), ((2, 84, 75), (0, 0), none)])], 5, 104)
/-- LoadsAheadModel program -/
theorem qk_2396 (l : Launch) : ek_ok l tQ iG kq_2396 := ek_good_ok (sp := sG) (K := [kq_2053, kq_2055, kq_2057, kq_2059, kq_2061, kq_2063, kq_2065, kq_2067, kq_2069, kq_2071, kq_2073, kq_2075, kq_2077, kq_223, kq_2079, kq_2081, kq_2083, kq_2085, kq_2087, kq_2089, kq_2091, kq_186, kq_2394, kq_2395]) (SP := [(5, [(2, [0, 240])])]) (HS := [((100, [some (.inr 86, none), some (.inl (1, 40), none), some (.inl (1, 1), none), some (.inl (0, 20), none)], [], [((2, 84, 18), (0, 0), none)], []), [(0, (0, 0, 0), 0), (1, (1, 3, 0), 20), (0, (0, 0, 0), 0)])]) (N := 3) (fuel := 782) iG_hI (List.forall_mem_cons.mpr ⟨(qk_2053 l), List.forall_mem_cons.mpr ⟨(qk_2055 l), List.forall_mem_cons.mpr ⟨(qk_2057 l), List.forall_mem_cons.mpr ⟨(qk_2059 l), List.forall_mem_cons.mpr ⟨(qk_2061 l), List.forall_mem_cons.mpr ⟨(qk_2063 l), List.forall_mem_cons.mpr ⟨(qk_2065 l), List.forall_mem_cons.mpr ⟨(qk_2067 l), List.forall_mem_cons.mpr ⟨(qk_2069 l), List.forall_mem_cons.mpr ⟨(qk_2071 l), List.forall_mem_cons.mpr ⟨(qk_2073 l), List.forall_mem_cons.mpr ⟨(qk_2075 l), List.forall_mem_cons.mpr ⟨(qk_2077 l), List.forall_mem_cons.mpr ⟨(ek_upS iG_hI (fun _ _ => trivial) rfl (qk_223 l)), List.forall_mem_cons.mpr ⟨(qk_2079 l), List.forall_mem_cons.mpr ⟨(qk_2081 l), List.forall_mem_cons.mpr ⟨(qk_2083 l), List.forall_mem_cons.mpr ⟨(qk_2085 l), List.forall_mem_cons.mpr ⟨(qk_2087 l), List.forall_mem_cons.mpr ⟨(qk_2089 l), List.forall_mem_cons.mpr ⟨(qk_2091 l), List.forall_mem_cons.mpr ⟨(ek_upS iG_hI (fun _ _ => trivial) rfl (qk_186 l)), List.forall_mem_cons.mpr ⟨(qk_2394 l), List.forall_mem_cons.mpr ⟨(qk_2395 l), fun _ h => absurd h List.not_mem_nil⟩⟩⟩⟩⟩⟩⟩⟩⟩⟩⟩⟩⟩⟩⟩⟩⟩⟩⟩⟩⟩⟩⟩⟩) (by decide +kernel)
def kq_2397 : ek := (40, [.inr 2, .inl (41, 240)], [((2, 1, 1), (40, 40), none)], [], [(some (.inl ((-1), (-1))), [((2, 1, 1), (40, 40), none)])], 0, 0)
/-- LoadsAhead program -/
theorem qk_2397 (l : Launch) : ek_ok l tQ iG kq_2397 := ek_good_ok (sp := sG) (K := []) (SP := []) (HS := []) (N := 0) (fuel := 34) iG_hI (fun _ h => absurd h List.not_mem_nil) (by decide +kernel)
def kq_2398 : ek := (137, [.inl (41, 240), .inl (1, 1), .inl (240, 240)], [], [], [(some (.inl (1, 1)), [])], 0, 0)
/-- LoadsAheadModel in -/
theorem qk_2398 (l : Launch) : ek_ok l tQ iG kq_2398 := ek_good_ok (sp := sG) (K := []) (SP := []) (HS := []) (N := 0) (fuel := 26) iG_hI (fun _ h => absurd h List.not_mem_nil) (by decide +kernel)
def kq_2399 : ek := (163, [.inr 86, .inl (41, 240)], [((2, 84, 18), (40, 40), none)], [], [(some (.inl ((-1), (-1))), [((2, 84, 18), (40, 40), none)])], 1, 22)
/-- LoadsAheadModel program -/
theorem qk_2399 (l : Launch) : ek_ok l tQ iG kq_2399 := ek_good_ok (sp := sG) (K := [kq_2398]) (SP := [(5, [(2, [0, 240])])]) (HS := []) (N := 0) (fuel := 30) iG_hI (List.forall_mem_cons.mpr ⟨(qk_2398 l), fun _ h => absurd h List.not_mem_nil⟩) (by decide +kernel)
def kq_2400 : ek := (131, [.inr 2, .inl (0, 40)], [((2, 1, 1), (40, 40), none)], [(1, 1)], [(some (.inl (0, 63)), [((2, 1, 1), (0, 0), none)]), (some (.inl ((-1), 63)), [((2, 1, 1), (0, 0), none)]), (some (.inl ((-1), (-1))), [((2, 1, 1), (0, 0), none)])], 1, 20)
/-- LoadsAhead check -/
theorem qk_2400 (l : Launch) : ek_ok l tQ iG kq_2400 := ek_good_ok (sp := sG) (K := [kq_103]) (SP := []) (HS := [((28, [some (.inr 2, none), some (.inl (0, 40), none), some (.inl ((-1), 63), none), some (.inl (0, 63), none)], [], [], []), [(0, (0, 0, 0), 0), (1, (1, 3, 0), 63), (0, (0, 0, 0), 0)])]) (N := 3) (fuel := 54) iG_hI (List.forall_mem_cons.mpr ⟨(ek_upS iG_hI (fun _ _ => trivial) rfl (qk_103 l)), fun _ h => absurd h List.not_mem_nil⟩) (by decide +kernel)
def kq_2401 : ek := (137, [.inl (0, 40), .inl (0, 0), .inl (64, 64)], [], [], [(some (.inl (1, 1)), [])], 0, 0)
/-- LoadsAheadModel in -/
theorem qk_2401 (l : Launch) : ek_ok l tQ iG kq_2401 := ek_good_ok (sp := sG) (K := []) (SP := []) (HS := []) (N := 0) (fuel := 26) iG_hI (fun _ h => absurd h List.not_mem_nil) (by decide +kernel)
