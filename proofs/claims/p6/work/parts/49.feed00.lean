def kq_2331 : ek := (13, [.inr 3, .inl ((-2147483648), 2147483647)], [((2, 1, 1), (0, 0), none)], [(1, 1), (2, 999)], [(none, [((2, 1, 1), (4, 4), none)])], 0, 0)
/-- LoadsAhead.Tape add -/
theorem qk_2331 (l : Launch) : ek_ok l tQ iG kq_2331 := ek_good_ok (sp := sG) (K := []) (SP := []) (HS := []) (N := 0) (fuel := 210) iG_hI (fun _ h => absurd h List.not_mem_nil) (by decide +kernel)
def kq_2332 : ek := (13, [.inr 3, .inl ((-2147483648), 2147483647)], [((2, 1, 1), (12, 12), none)], [(1, 1), (2, 999)], [(none, [((2, 1, 1), (16, 16), none)])], 0, 0)
/-- LoadsAhead.Tape add -/
theorem qk_2332 (l : Launch) : ek_ok l tQ iG kq_2332 := ek_good_ok (sp := sG) (K := []) (SP := []) (HS := []) (N := 0) (fuel := 210) iG_hI (fun _ h => absurd h List.not_mem_nil) (by decide +kernel)
def kq_2333 : ek := (13, [.inr 3, .inl ((-2147483648), 2147483647)], [((2, 1, 1), (16, 16), none)], [(1, 1), (2, 999)], [(none, [((2, 1, 1), (20, 20), none)])], 0, 0)
/-- LoadsAhead.Tape add -/
theorem qk_2333 (l : Launch) : ek_ok l tQ iG kq_2333 := ek_good_ok (sp := sG) (K := []) (SP := []) (HS := []) (N := 0) (fuel := 210) iG_hI (fun _ h => absurd h List.not_mem_nil) (by decide +kernel)
def kq_2334 : ek := (13, [.inr 3, .inl ((-2147483648), 2147483647)], [((2, 1, 1), (4, 4), none)], [(1, 1), (2, 999)], [(none, [((2, 1, 1), (8, 8), none)])], 0, 0)
/-- LoadsAhead.Tape add -/
theorem qk_2334 (l : Launch) : ek_ok l tQ iG kq_2334 := ek_good_ok (sp := sG) (K := []) (SP := []) (HS := []) (N := 0) (fuel := 210) iG_hI (fun _ h => absurd h List.not_mem_nil) (by decide +kernel)
def kq_2335 : ek := (13, [.inr 3, .inl ((-2147483648), 2147483647)], [((2, 1, 1), (8, 8), none)], [(1, 1), (2, 999)], [(none, [((2, 1, 1), (12, 12), none)])], 0, 0)
/-- LoadsAhead.Tape add -/
theorem qk_2335 (l : Launch) : ek_ok l tQ iG kq_2335 := ek_good_ok (sp := sG) (K := []) (SP := []) (HS := []) (N := 0) (fuel := 210) iG_hI (fun _ h => absurd h List.not_mem_nil) (by decide +kernel)
def kq_2336 : ek := (12, [.inr 2, .inl ((-2147483648), 2147483647), .inl ((-2147483648), 2147483647), .inl ((-2147483648), 2147483647), .inl ((-2147483648), 2147483647), .inl ((-2147483648), 2147483647)], [((2, 1, 1), (0, 0), none)], [(1, 1), (2, 999)], [(some (.inl (20, 20)), [((2, 1, 1), (20, 20), none)])], 1, 22)
/-- LoadsAhead feed -/
theorem qk_2336 (l : Launch) : ek_ok l tQ iG kq_2336 := ek_good_ok (sp := sG) (K := [kq_2331, kq_2332, kq_2333, kq_2334, kq_2335]) (SP := []) (HS := []) (N := 0) (fuel := 70) iG_hI (List.forall_mem_cons.mpr ⟨(qk_2331 l), List.forall_mem_cons.mpr ⟨(qk_2332 l), List.forall_mem_cons.mpr ⟨(qk_2333 l), List.forall_mem_cons.mpr ⟨(qk_2334 l), List.forall_mem_cons.mpr ⟨(qk_2335 l), fun _ h => absurd h List.not_mem_nil⟩⟩⟩⟩⟩) (by decide +kernel)
def kq_2337 : ek := (140, [.inr 86, .inl ((-2147483648), 2147483647)], [((2, 84, 18), (0, 0), none)], [(84, 18), (96, 999)], [(none, [((2, 84, 18), (4, 4), none)])], 0, 0)
/-- LoadsAheadModel types -/
theorem qk_2337 (l : Launch) : ek_ok l tQ iG kq_2337 := ek_good_ok (sp := sG) (K := []) (SP := []) (HS := []) (N := 0) (fuel := 186) iG_hI (fun _ h => absurd h List.not_mem_nil) (by decide +kernel)
def kq_2338 : ek := (140, [.inr 86, .inl ((-2147483648), 2147483647)], [((2, 84, 18), (12, 12), none)], [(84, 18), (96, 999)], [(none, [((2, 84, 18), (16, 16), none)])], 0, 0)
/-- LoadsAheadModel types -/
theorem qk_2338 (l : Launch) : ek_ok l tQ iG kq_2338 := ek_good_ok (sp := sG) (K := []) (SP := []) (HS := []) (N := 0) (fuel := 186) iG_hI (fun _ h => absurd h List.not_mem_nil) (by decide +kernel)
def kq_2339 : ek := (140, [.inr 86, .inl ((-2147483648), 2147483647)], [((2, 84, 18), (16, 16), none)], [(84, 18), (96, 999)], [(none, [((2, 84, 18), (20, 20), none)])], 0, 0)
/-- LoadsAheadModel types -/
theorem qk_2339 (l : Launch) : ek_ok l tQ iG kq_2339 := ek_good_ok (sp := sG) (K := []) (SP := []) (HS := []) (N := 0) (fuel := 186) iG_hI (fun _ h => absurd h List.not_mem_nil) (by decide +kernel)
def kq_2340 : ek := (140, [.inr 86, .inl ((-2147483648), 2147483647)], [((2, 84, 18), (4, 4), none)], [(84, 18), (96, 999)], [(none, [((2, 84, 18), (8, 8), none)])], 0, 0)
/-- LoadsAheadModel types -/
theorem qk_2340 (l : Launch) : ek_ok l tQ iG kq_2340 := ek_good_ok (sp := sG) (K := []) (SP := []) (HS := []) (N := 0) (fuel := 186) iG_hI (fun _ h => absurd h List.not_mem_nil) (by decide +kernel)
def kq_2341 : ek := (140, [.inr 86, .inl ((-2147483648), 2147483647)], [((2, 84, 18), (8, 8), none)], [(84, 18), (96, 999)], [(none, [((2, 84, 18), (12, 12), none)])], 0, 0)
/-- LoadsAheadModel types -/
theorem qk_2341 (l : Launch) : ek_ok l tQ iG kq_2341 := ek_good_ok (sp := sG) (K := []) (SP := []) (HS := []) (N := 0) (fuel := 186) iG_hI (fun _ h => absurd h List.not_mem_nil) (by decide +kernel)
def kq_2342 : ek := (139, [.inr 86, .inl ((-2147483648), 2147483647), .inl ((-2147483648), 2147483647), .inl ((-2147483648), 2147483647), .inl ((-2147483648), 2147483647), .inl ((-2147483648), 2147483647)], [((2, 84, 18), (0, 0), none)], [(84, 18), (96, 999)], [(some (.inl (20, 20)), [((2, 84, 18), (20, 20), none)])], 1, 22)
/-- LoadsAheadModel feed -/
theorem qk_2342 (l : Launch) : ek_ok l tQ iG kq_2342 := ek_good_ok (sp := sG) (K := [kq_2337, kq_2338, kq_2339, kq_2340, kq_2341]) (SP := []) (HS := []) (N := 0) (fuel := 56) iG_hI (List.forall_mem_cons.mpr ⟨(qk_2337 l), List.forall_mem_cons.mpr ⟨(qk_2338 l), List.forall_mem_cons.mpr ⟨(qk_2339 l), List.forall_mem_cons.mpr ⟨(qk_2340 l), List.forall_mem_cons.mpr ⟨(qk_2341 l), fun _ h => absurd h List.not_mem_nil⟩⟩⟩⟩⟩) (by decide +kernel)
def kq_2343 : ek := (14, [.inr 2, .inl (1, 240)], [((2, 1, 1), (0, 0), none)], [], [(some (.inl ((-1), (-1))), [((2, 1, 1), (0, 0), none)])], 0, 0)
/-- LoadsAhead law -/
theorem qk_2343 (l : Launch) : ek_ok l tQ iG kq_2343 := ek_good_ok (sp := sG) (K := []) (SP := []) (HS := []) (N := 0) (fuel := 34) iG_hI (fun _ h => absurd h List.not_mem_nil) (by decide +kernel)
def kq_2344 : ek := (40, [.inr 2, .inl (1, 240)], [((2, 1, 1), (0, 0), none)], [], [(some (.inl ((-1), (-1))), [((2, 1, 1), (0, 0), none)])], 0, 0)
/-- LoadsAhead program -/
theorem qk_2344 (l : Launch) : ek_ok l tQ iG kq_2344 := ek_good_ok (sp := sG) (K := []) (SP := []) (HS := []) (N := 0) (fuel := 34) iG_hI (fun _ h => absurd h List.not_mem_nil) (by decide +kernel)
def kq_2345 : ek := (163, [.inr 86, .inl (1, 240)], [((2, 84, 18), (0, 0), none)], [], [(some (.inl ((-1), (-1))), [((2, 84, 18), (0, 0), none)])], 1, 22)
/-- LoadsAheadModel program -/
theorem qk_2345 (l : Launch) : ek_ok l tQ iG kq_2345 := ek_good_ok (sp := sG) (K := [kq_182]) (SP := [(5, [(2, [0, 240])])]) (HS := []) (N := 0) (fuel := 30) iG_hI (List.forall_mem_cons.mpr ⟨(ek_upS iG_hI (fun _ _ => trivial) rfl (qk_182 l)), fun _ h => absurd h List.not_mem_nil⟩) (by decide +kernel)
def kq_2346 : ek := (131, [.inr 2, .inl (0, 0)], [((2, 1, 1), (0, 0), none)], [(1, 1)], [(some (.inl ((-1), (-1))), [((2, 1, 1), (0, 0), none)])], 1, 20)
/-- LoadsAhead check -/
theorem qk_2346 (l : Launch) : ek_ok l tQ iG kq_2346 := ek_good_ok (sp := sG) (K := [kq_103]) (SP := []) (HS := [((28, [some (.inr 2, none), some (.inl (0, 0), none), some (.inl ((-1), (-1)), none), some (.inl (0, 0), none)], [], [], []), [(0, (0, 0, 0), 0)])]) (N := 1) (fuel := 38) iG_hI (List.forall_mem_cons.mpr ⟨(ek_upS iG_hI (fun _ _ => trivial) rfl (qk_103 l)), fun _ h => absurd h List.not_mem_nil⟩) (by decide +kernel)
def kq_2347 : ek := (237, [.inr 86, .inl (0, 0)], [((2, 84, 18), (0, 0), none)], [(84, 18)], [(some (.inl ((-1), (-1))), [((2, 84, 18), (0, 0), none)])], 1, 22)
/-- LoadsAheadModel check -/
theorem qk_2347 (l : Launch) : ek_ok l tQ iG kq_2347 := ek_good_ok (sp := sG) (K := [kq_1205]) (SP := [(4, [(2, [(-1), 64])])]) (HS := [((28, [some (.inr 86, none), some (.inl (0, 0), none), some (.inl (0, 0), none)], [], [((2, 84, 18), (0, 0), none)], []), [(0, (0, 0, 0), 0)])]) (N := 1) (fuel := 38) iG_hI (List.forall_mem_cons.mpr ⟨(ek_upS iG_hI (fun _ _ => trivial) rfl (qk_1205 l)), fun _ h => absurd h List.not_mem_nil⟩) (by decide +kernel)
def kq_2348 : ek := (131, [.inr 2, .inl (1, 64)], [((2, 1, 1), (0, 0), none)], [], [(some (.inl ((-2), (-2))), [((2, 1, 1), (0, 0), none)])], 0, 0)
/-- LoadsAhead check -/
theorem qk_2348 (l : Launch) : ek_ok l tQ iG kq_2348 := ek_good_ok (sp := sG) (K := []) (SP := []) (HS := []) (N := 0) (fuel := 32) iG_hI (fun _ h => absurd h List.not_mem_nil) (by decide +kernel)
def kq_2349 : ek := (237, [.inr 86, .inl (1, 64)], [((2, 84, 18), (0, 0), none)], [], [(some (.inl ((-2), (-2))), [((2, 84, 18), (0, 0), none)])], 1, 22)
/-- LoadsAheadModel check -/
theorem qk_2349 (l : Launch) : ek_ok l tQ iG kq_2349 := ek_good_ok (sp := sG) (K := [kq_1207]) (SP := [(4, [(2, [(-1), 64])])]) (HS := []) (N := 0) (fuel := 30) iG_hI (List.forall_mem_cons.mpr ⟨(ek_upS iG_hI (fun _ _ => trivial) rfl (qk_1207 l)), fun _ h => absurd h List.not_mem_nil⟩) (by decide +kernel)
def kq_2350 : ek := (13, [.inr 3, .inl ((-2147483648), 2147483647)], [((2, 1, 1), (20, 20), none)], [(1, 1), (2, 999)], [(none, [((2, 1, 1), (24, 24), none)])], 0, 0)
/-- LoadsAhead.Tape add -/
theorem qk_2350 (l : Launch) : ek_ok l tQ iG kq_2350 := ek_good_ok (sp := sG) (K := []) (SP := []) (HS := []) (N := 0) (fuel := 210) iG_hI (fun _ h => absurd h List.not_mem_nil) (by decide +kernel)
def kq_2351 : ek := (13, [.inr 3, .inl ((-2147483648), 2147483647)], [((2, 1, 1), (24, 24), none)], [(1, 1), (2, 999)], [(none, [((2, 1, 1), (28, 28), none)])], 0, 0)
/-- LoadsAhead.Tape add -/
theorem qk_2351 (l : Launch) : ek_ok l tQ iG kq_2351 := ek_good_ok (sp := sG) (K := []) (SP := []) (HS := []) (N := 0) (fuel := 210) iG_hI (fun _ h => absurd h List.not_mem_nil) (by decide +kernel)
def kq_2352 : ek := (13, [.inr 3, .inl ((-2147483648), 2147483647)], [((2, 1, 1), (28, 28), none)], [(1, 1), (2, 999)], [(none, [((2, 1, 1), (32, 32), none)])], 0, 0)
/-- LoadsAhead.Tape add -/
theorem qk_2352 (l : Launch) : ek_ok l tQ iG kq_2352 := ek_good_ok (sp := sG) (K := []) (SP := []) (HS := []) (N := 0) (fuel := 210) iG_hI (fun _ h => absurd h List.not_mem_nil) (by decide +kernel)
def kq_2353 : ek := (13, [.inr 3, .inl ((-2147483648), 2147483647)], [((2, 1, 1), (32, 32), none)], [(1, 1), (2, 999)], [(none, [((2, 1, 1), (36, 36), none)])], 0, 0)
/-- LoadsAhead.Tape add -/
theorem qk_2353 (l : Launch) : ek_ok l tQ iG kq_2353 := ek_good_ok (sp := sG) (K := []) (SP := []) (HS := []) (N := 0) (fuel := 210) iG_hI (fun _ h => absurd h List.not_mem_nil) (by decide +kernel)
def kq_2354 : ek := (13, [.inr 3, .inl ((-2147483648), 2147483647)], [((2, 1, 1), (36, 36), none)], [(1, 1), (2, 999)], [(none, [((2, 1, 1), (40, 40), none)])], 0, 0)
/-- LoadsAhead.Tape add -/
theorem qk_2354 (l : Launch) : ek_ok l tQ iG kq_2354 := ek_good_ok (sp := sG) (K := []) (SP := []) (HS := []) (N := 0) (fuel := 210) iG_hI (fun _ h => absurd h List.not_mem_nil) (by decide +kernel)
def kq_2355 : ek := (12, [.inr 2, .inl ((-2147483648), 2147483647), .inl ((-2147483648), 2147483647), .inl ((-2147483648), 2147483647), .inl ((-2147483648), 2147483647), .inl ((-2147483648), 2147483647)], [((2, 1, 1), (20, 20), none)], [(1, 1), (2, 999)], [(some (.inl (40, 40)), [((2, 1, 1), (40, 40), none)])], 1, 22)
/-- LoadsAhead feed -/
theorem qk_2355 (l : Launch) : ek_ok l tQ iG kq_2355 := ek_good_ok (sp := sG) (K := [kq_2350, kq_2351, kq_2352, kq_2353, kq_2354]) (SP := []) (HS := []) (N := 0) (fuel := 70) iG_hI (List.forall_mem_cons.mpr ⟨(qk_2350 l), List.forall_mem_cons.mpr ⟨(qk_2351 l), List.forall_mem_cons.mpr ⟨(qk_2352 l), List.forall_mem_cons.mpr ⟨(qk_2353 l), List.forall_mem_cons.mpr ⟨(qk_2354 l), fun _ h => absurd h List.not_mem_nil⟩⟩⟩⟩⟩) (by decide +kernel)
def kq_2356 : ek := (140, [.inr 86, .inl ((-2147483648), 2147483647)], [((2, 84, 18), (20, 20), none)], [(84, 18), (96, 999)], [(none, [((2, 84, 18), (24, 24), none)])], 0, 0)
/-- LoadsAheadModel types -/
theorem qk_2356 (l : Launch) : ek_ok l tQ iG kq_2356 := ek_good_ok (sp := sG) (K := []) (SP := []) (HS := []) (N := 0) (fuel := 186) iG_hI (fun _ h => absurd h List.not_mem_nil) (by decide +kernel)
def kq_2357 : ek := (140, [.inr 86, .inl ((-2147483648), 2147483647)], [((2, 84, 18), (24, 24), none)], [(84, 18), (96, 999)], [(none, [((2, 84, 18), (28, 28), none)])], 0, 0)
/-- LoadsAheadModel types -/
theorem qk_2357 (l : Launch) : ek_ok l tQ iG kq_2357 := ek_good_ok (sp := sG) (K := []) (SP := []) (HS := []) (N := 0) (fuel := 186) iG_hI (fun _ h => absurd h List.not_mem_nil) (by decide +kernel)
def kq_2358 : ek := (140, [.inr 86, .inl ((-2147483648), 2147483647)], [((2, 84, 18), (28, 28), none)], [(84, 18), (96, 999)], [(none, [((2, 84, 18), (32, 32), none)])], 0, 0)
/-- LoadsAheadModel types -/
theorem qk_2358 (l : Launch) : ek_ok l tQ iG kq_2358 := ek_good_ok (sp := sG) (K := []) (SP := []) (HS := []) (N := 0) (fuel := 186) iG_hI (fun _ h => absurd h List.not_mem_nil) (by decide +kernel)
def kq_2359 : ek := (140, [.inr 86, .inl ((-2147483648), 2147483647)], [((2, 84, 18), (32, 32), none)], [(84, 18), (96, 999)], [(none, [((2, 84, 18), (36, 36), none)])], 0, 0)
/-- LoadsAheadModel types -/
theorem qk_2359 (l : Launch) : ek_ok l tQ iG kq_2359 := ek_good_ok (sp := sG) (K := []) (SP := []) (HS := []) (N := 0) (fuel := 186) iG_hI (fun _ h => absurd h List.not_mem_nil) (by decide +kernel)
def kq_2360 : ek := (140, [.inr 86, .inl ((-2147483648), 2147483647)], [((2, 84, 18), (36, 36), none)], [(84, 18), (96, 999)], [(none, [((2, 84, 18), (40, 40), none)])], 0, 0)
/-- LoadsAheadModel types -/
theorem qk_2360 (l : Launch) : ek_ok l tQ iG kq_2360 := ek_good_ok (sp := sG) (K := []) (SP := []) (HS := []) (N := 0) (fuel := 186) iG_hI (fun _ h => absurd h List.not_mem_nil) (by decide +kernel)
def kq_2361 : ek := (139, [.inr 86, .inl ((-2147483648), 2147483647), .inl ((-2147483648), 2147483647), .inl ((-2147483648), 2147483647), .inl ((-2147483648), 2147483647), .inl ((-2147483648), 2147483647)], [((2, 84, 18), (20, 20), none)], [(84, 18), (96, 999)], [(some (.inl (40, 40)), [((2, 84, 18), (40, 40), none)])], 1, 22)
/-- LoadsAheadModel feed -/
theorem qk_2361 (l : Launch) : ek_ok l tQ iG kq_2361 := ek_good_ok (sp := sG) (K := [kq_2356, kq_2357, kq_2358, kq_2359, kq_2360]) (SP := []) (HS := []) (N := 0) (fuel := 56) iG_hI (List.forall_mem_cons.mpr ⟨(qk_2356 l), List.forall_mem_cons.mpr ⟨(qk_2357 l), List.forall_mem_cons.mpr ⟨(qk_2358 l), List.forall_mem_cons.mpr ⟨(qk_2359 l), List.forall_mem_cons.mpr ⟨(qk_2360 l), fun _ h => absurd h List.not_mem_nil⟩⟩⟩⟩⟩) (by decide +kernel)
def kq_2362 : ek := (15, [.inr 3, .inl (0, 20)], [], [(1, 2), (1, 3), (1, 4)], [(none, [((2, 1, 2), (0, 20), none), ((2, 1, 3), (0, 0), none), ((2, 1, 4), (0, 0), none)])], 1, 16)
/-- LoadsAhead.Tape beginText -/
theorem qk_2362 (l : Launch) : ek_ok l tQ iG kq_2362 := ek_good_ok (sp := sG) (K := []) (SP := []) (HS := []) (N := 0) (fuel := 34) iG_hI (fun _ h => absurd h List.not_mem_nil) (by decide +kernel)
def kq_2363 : ek := (14, [.inr 2, .inl (1, 20)], [((2, 1, 1), (20, 20), none)], [(1, 1), (1, 2), (1, 3), (1, 4), (16, 7), (17, 999), (18, 999), (19, 999), (20, 999), (21, 999), (57, 7), (57, 8), (58, 999), (59, 999), (60, 999), (61, 999), (62, 999)], [(some (.inl (0, 2147483647)), [((2, 1, 1), (0, 0), none), ((2, 1, 2), (0, 20), none)]), (some (.inl ((-2147483648), (-1))), [((2, 1, 1), (0, 0), none), ((2, 1, 2), (0, 20), none)])], 29, 749)
/-- LoadsAhead law -/
theorem qk_2363 (l : Launch) : ek_ok l tQ iG kq_2363 := ek_good_ok (sp := sG) (K := [kq_2040, kq_102, kq_103, kq_2362]) (SP := []) (HS := []) (N := 0) (fuel := 76) iG_hI (List.forall_mem_cons.mpr ⟨(qk_2040 l), List.forall_mem_cons.mpr ⟨(cf l), List.forall_mem_cons.mpr ⟨(ek_upS iG_hI (fun _ _ => trivial) rfl (qk_103 l)), List.forall_mem_cons.mpr ⟨(qk_2362 l), fun _ h => absurd h List.not_mem_nil⟩⟩⟩⟩) (by decide +kernel)
def kq_2364 : ek := (14, [.inr 2, .inl (21, 240)], [((2, 1, 1), (20, 20), none)], [], [(some (.inl ((-1), (-1))), [((2, 1, 1), (20, 20), none)])], 0, 0)
/-- LoadsAhead law -/
theorem qk_2364 (l : Launch) : ek_ok l tQ iG kq_2364 := ek_good_ok (sp := sG) (K := []) (SP := []) (HS := []) (N := 0) (fuel := 34) iG_hI (fun _ h => absurd h List.not_mem_nil) (by decide +kernel)
def kq_2365 : ek := (40, [.inr 2, .inl (1, 20)], [((2, 1, 1), (20, 20), none)], [(0, 8), (0, 10), (1, 1), (1, 2), (1, 3), (1, 4), (4, 11), (4, 12), (5, 999), (6, 999), (7, 999), (8, 999), (9, 999), (10, 999), (11, 999), (12, 999), (13, 999), (24, 3), (27, 999), (45, 11), (45, 12), (46, 999), (47, 999), (48, 999), (49, 999), (50, 999), (51, 999), (52, 999), (53, 999), (54, 999), (55, 999), (56, 999), (83, 999)], [(some (.inl (0, 2147483647)), [((2, 0, 8), (0, 0), none), ((2, 0, 10), (1, 1), none), ((2, 1, 1), (0, 0), none), ((2, 1, 2), (0, 20), none), ((2, 24, 3), (0, 0), none)]), (some (.inl ((-2147483648), (-1))), [((2, 1, 1), (0, 0), none), ((2, 1, 2), (0, 20), none)])], 7, 153)
/-- LoadsAhead program -/
theorem qk_2365 (l : Launch) : ek_ok l tQ iG kq_2365 := ek_good_ok (sp := sG) (K := [kq_103, kq_138, kq_139, kq_141, kq_143, kq_2362]) (SP := []) (HS := []) (N := 0) (fuel := 112) iG_hI (List.forall_mem_cons.mpr ⟨(ek_upS iG_hI (fun _ _ => trivial) rfl (qk_103 l)), List.forall_mem_cons.mpr ⟨(ek_upS iG_hI (fun _ _ => trivial) rfl (qk_138 l)), List.forall_mem_cons.mpr ⟨(ek_upS iG_hI (fun _ _ => trivial) rfl (qk_139 l)), List.forall_mem_cons.mpr ⟨(ek_upS iG_hI (fun _ _ => trivial) rfl (qk_141 l)), List.forall_mem_cons.mpr ⟨(ek_upS iG_hI (fun _ _ => trivial) rfl (qk_143 l)), List.forall_mem_cons.mpr ⟨(qk_2362 l), fun _ h => absurd h List.not_mem_nil⟩⟩⟩⟩⟩⟩) (by decide +kernel)
def kq_2366 : ek := (137, [.inl (1, 20), .inl (1, 1), .inl (240, 240)], [], [], [(some (.inl (1, 1)), [])], 0, 0)
/-- LoadsAheadModel in -/
theorem qk_2366 (l : Launch) : ek_ok l tQ iG kq_2366 := ek_good_ok (sp := sG) (K := []) (SP := []) (HS := []) (N := 0) (fuel := 26) iG_hI (fun _ h => absurd h List.not_mem_nil) (by decide +kernel)
def kq_2367 : ek := (142, [.inr 86, .inl (0, 20)], [], [(84, 19), (84, 20), (84, 24), (84, 26)], [(none, [((2, 84, 19), (0, 0), none), ((2, 84, 20), (0, 20), none), ((2, 84, 24), (0, 0), none), ((2, 84, 26), (0, 0), none)])], 0, 0)
/-- LoadsAheadModel beginsText -/
theorem qk_2367 (l : Launch) : ek_ok l tQ iG kq_2367 := ek_good_ok (sp := sG) (K := []) (SP := []) (HS := []) (N := 0) (fuel := 34) iG_hI (fun _ h => absurd h List.not_mem_nil) (by decide +kernel)
def kq_2368 : ek := (163, [.inr 86, .inl (1, 20)], [((2, 84, 18), (20, 20), none)], [(84, 2), (84, 3), (84, 5), (84, 18), (84, 19), (84, 20), (84, 21), (84, 22), (84, 24), (84, 26), (84, 41), (84, 75), (87, 999), (88, 999), (89, 999), (90, 999), (91, 999), (92, 999), (93, 999), (94, 999), (95, 999), (110, 999), (111, 999), (112, 999), (113, 999), (114, 999), (115, 999), (116, 999), (117, 999), (145, 999)], [(some (.inl ((-2147483648), 2147483647)), [((2, 84, 18), (0, 0), none), ((2, 84, 20), (0, 20), none), ((2, 84, 24), (0, 0), none), ((2, 84, 26), (0, 0), none)]), (some (.inl (0, 20)), [((2, 84, 3), (0, 0), none), ((2, 84, 18), (0, 0), none), ((2, 84, 75), (0, 0), none)])], 5, 104)
/-- LoadsAheadModel program -/
theorem qk_2368 (l : Launch) : ek_ok l tQ iG kq_2368 := ek_good_ok (sp := sG) (K := [kq_2053, kq_2055, kq_2057, kq_2059, kq_2061, kq_2063, kq_2065, kq_2067, kq_2069, kq_2071, kq_2073, kq_2075, kq_2077, kq_223, kq_2079, kq_2081, kq_2083, kq_2085, kq_2087, kq_2089, kq_2091, kq_186, kq_2366, kq_2367]) (SP := [(5, [(2, [0, 240])])]) (HS := [((100, [some (.inr 86, none), some (.inl (1, 20), none), some (.inl (1, 1), none), some (.inl (0, 20), none)], [], [((2, 84, 18), (0, 0), none)], []), [(0, (0, 0, 0), 0), (1, (1, 3, 0), 20), (0, (0, 0, 0), 0)])]) (N := 3) (fuel := 782) iG_hI (List.forall_mem_cons.mpr ⟨(qk_2053 l), List.forall_mem_cons.mpr ⟨(qk_2055 l), List.forall_mem_cons.mpr ⟨(qk_2057 l), List.forall_mem_cons.mpr ⟨(qk_2059 l), List.forall_mem_cons.mpr ⟨(qk_2061 l), List.forall_mem_cons.mpr ⟨(qk_2063 l), List.forall_mem_cons.mpr ⟨(qk_2065 l), List.forall_mem_cons.mpr ⟨(qk_2067 l), List.forall_mem_cons.mpr ⟨(qk_2069 l), List.forall_mem_cons.mpr ⟨(qk_2071 l), List.forall_mem_cons.mpr ⟨(qk_2073 l), List.forall_mem_cons.mpr ⟨(qk_2075 l), List.forall_mem_cons.mpr ⟨(qk_2077 l), List.forall_mem_cons.mpr ⟨(ek_upS iG_hI (fun _ _ => trivial) rfl (qk_223 l)), List.forall_mem_cons.mpr ⟨(qk_2079 l), List.forall_mem_cons.mpr ⟨(qk_2081 l), List.forall_mem_cons.mpr ⟨(qk_2083 l), List.forall_mem_cons.mpr ⟨(qk_2085 l), List.forall_mem_cons.mpr ⟨(qk_2087 l), List.forall_mem_cons.mpr ⟨(qk_2089 l), List.forall_mem_cons.mpr ⟨(qk_2091 l), List.forall_mem_cons.mpr ⟨(ek_upS iG_hI (fun _ _ => trivial) rfl (qk_186 l)), List.forall_mem_cons.mpr ⟨(qk_2366 l), List.forall_mem_cons.mpr ⟨(qk_2367 l), fun _ h => absurd h List.not_mem_nil⟩⟩⟩⟩⟩⟩⟩⟩⟩⟩⟩⟩⟩⟩⟩⟩⟩⟩⟩⟩⟩⟩⟩⟩) (by decide +kernel)
