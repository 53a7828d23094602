def kq_0 : ek := (10, [.inr 2, .inl ((-2147483648), (-1)), .inl ((-2147483648), 2147483647)], [], [], [(some (.inl (0, 0)), [])], 0, 0)
/-- LoadsAhead register -/
theorem qk_0 (l : Launch) : ek_ok l tQ iQ kq_0 := ek_good_ok (sp := sQ) (K := []) (SP := []) (HS := []) (N := 0) (fuel := 16) hIQ (fun _ h => absurd h List.not_mem_nil) (by decide +kernel)
def kq_1 : ek := (10, [.inr 2, .inl (0, 7), .inl ((-2147483648), 2147483647)], [], [(25, 999)], [(some (.inl (1, 1)), [])], 0, 0)
/-- LoadsAhead register -/
theorem qk_1 (l : Launch) : ek_ok l tQ iQ kq_1 := ek_good_ok (sp := sQ) (K := []) (SP := []) (HS := []) (N := 0) (fuel := 36) hIQ (fun _ h => absurd h List.not_mem_nil) (by decide +kernel)
def kq_2 : ek := (10, [.inr 2, .inl (8, 2147483647), .inl ((-2147483648), 2147483647)], [], [], [(some (.inl (0, 0)), [])], 0, 0)
/-- LoadsAhead register -/
theorem qk_2 (l : Launch) : ek_ok l tQ iQ kq_2 := ek_good_ok (sp := sQ) (K := []) (SP := []) (HS := []) (N := 0) (fuel := 22) hIQ (fun _ h => absurd h List.not_mem_nil) (by decide +kernel)
def kq_3 : ek := (137, [.inl ((-2147483648), (-1)), .inl (0, 0), .inl (7, 7)], [], [], [(some (.inl (0, 0)), [])], 0, 0)
/-- LoadsAheadModel in -/
theorem qk_3 (l : Launch) : ek_ok l tQ iQ kq_3 := ek_good_ok (sp := sQ) (K := []) (SP := []) (HS := []) (N := 0) (fuel := 18) hIQ (fun _ h => absurd h List.not_mem_nil) (by decide +kernel)
def kq_4 : ek := (136, [.inr 86, .inl ((-2147483648), (-1)), .inl ((-2147483648), 2147483647)], [], [], [(some (.inl (0, 0)), [])], 1, 22)
/-- LoadsAheadModel register -/
theorem qk_4 (l : Launch) : ek_ok l tQ iQ kq_4 := ek_good_ok (sp := sQ) (K := [kq_3]) (SP := [(4, [(2, [(-1), 7])])]) (HS := []) (N := 0) (fuel := 22) hIQ (List.forall_mem_cons.mpr ⟨qk_3 l, fun _ h => absurd h List.not_mem_nil⟩) (by decide +kernel)
def kq_5 : ek := (137, [.inl (0, 7), .inl (0, 0), .inl (7, 7)], [], [], [(some (.inl (1, 1)), [])], 0, 0)
/-- LoadsAheadModel in -/
theorem qk_5 (l : Launch) : ek_ok l tQ iQ kq_5 := ek_good_ok (sp := sQ) (K := []) (SP := []) (HS := []) (N := 0) (fuel := 26) hIQ (fun _ h => absurd h List.not_mem_nil) (by decide +kernel)
def kq_6 : ek := (136, [.inr 86, .inl (0, 7), .inl ((-2147483648), 2147483647)], [], [(85, 999)], [(some (.inl (1, 1)), [])], 1, 22)
/-- LoadsAheadModel register -/
theorem qk_6 (l : Launch) : ek_ok l tQ iQ kq_6 := ek_good_ok (sp := sQ) (K := [kq_5]) (SP := [(4, [(2, [(-1), 7])])]) (HS := []) (N := 0) (fuel := 32) hIQ (List.forall_mem_cons.mpr ⟨qk_5 l, fun _ h => absurd h List.not_mem_nil⟩) (by decide +kernel)
def kq_7 : ek := (137, [.inl (8, 2147483647), .inl (0, 0), .inl (7, 7)], [], [], [(some (.inl (0, 0)), [])], 0, 0)
/-- LoadsAheadModel in -/
theorem qk_7 (l : Launch) : ek_ok l tQ iQ kq_7 := ek_good_ok (sp := sQ) (K := []) (SP := []) (HS := []) (N := 0) (fuel := 24) hIQ (fun _ h => absurd h List.not_mem_nil) (by decide +kernel)
def kq_8 : ek := (136, [.inr 86, .inl (8, 2147483647), .inl ((-2147483648), 2147483647)], [], [], [(some (.inl (0, 0)), [])], 1, 22)
/-- LoadsAheadModel register -/
theorem qk_8 (l : Launch) : ek_ok l tQ iQ kq_8 := ek_good_ok (sp := sQ) (K := [kq_7]) (SP := [(4, [(2, [(-1), 7])])]) (HS := []) (N := 0) (fuel := 22) hIQ (List.forall_mem_cons.mpr ⟨qk_7 l, fun _ h => absurd h List.not_mem_nil⟩) (by decide +kernel)
def kq_9 : ek := (11, [.inr 2, .inl ((-2147483648), (-1)), .inl ((-2147483648), 2147483647)], [], [], [(some (.inl (0, 0)), [])], 0, 0)
/-- LoadsAhead poke -/
theorem qk_9 (l : Launch) : ek_ok l tQ iQ kq_9 := ek_good_ok (sp := sQ) (K := []) (SP := []) (HS := []) (N := 0) (fuel := 16) hIQ (fun _ h => absurd h List.not_mem_nil) (by decide +kernel)
def kq_10 : ek := (11, [.inr 2, .inl (64, 2147483647), .inl ((-2147483648), 2147483647)], [], [], [(some (.inl (0, 0)), [])], 0, 0)
/-- LoadsAhead poke -/
theorem qk_10 (l : Launch) : ek_ok l tQ iQ kq_10 := ek_good_ok (sp := sQ) (K := []) (SP := []) (HS := []) (N := 0) (fuel := 22) hIQ (fun _ h => absurd h List.not_mem_nil) (by decide +kernel)
def kq_11 : ek := (11, [.inr 2, .inl (0, 63), .inl ((-2147483648), (-1))], [], [], [(some (.inl (0, 0)), [])], 0, 0)
/-- LoadsAhead poke -/
theorem qk_11 (l : Launch) : ek_ok l tQ iQ kq_11 := ek_good_ok (sp := sQ) (K := []) (SP := []) (HS := []) (N := 0) (fuel := 26) hIQ (fun _ h => absurd h List.not_mem_nil) (by decide +kernel)
def kq_12 : ek := (11, [.inr 2, .inl (0, 63), .inl (0, 255)], [], [(26, 999)], [(some (.inl (1, 1)), [])], 0, 0)
/-- LoadsAhead poke -/
theorem qk_12 (l : Launch) : ek_ok l tQ iQ kq_12 := ek_good_ok (sp := sQ) (K := []) (SP := []) (HS := []) (N := 0) (fuel := 46) hIQ (fun _ h => absurd h List.not_mem_nil) (by decide +kernel)
def kq_13 : ek := (11, [.inr 2, .inl (0, 63), .inl (256, 2147483647)], [], [], [(some (.inl (0, 0)), [])], 0, 0)
/-- LoadsAhead poke -/
theorem qk_13 (l : Launch) : ek_ok l tQ iQ kq_13 := ek_good_ok (sp := sQ) (K := []) (SP := []) (HS := []) (N := 0) (fuel := 32) hIQ (fun _ h => absurd h List.not_mem_nil) (by decide +kernel)
def kq_14 : ek := (137, [.inl ((-2147483648), (-1)), .inl (0, 0), .inl (63, 63)], [], [], [(some (.inl (0, 0)), [])], 0, 0)
/-- LoadsAheadModel in -/
theorem qk_14 (l : Launch) : ek_ok l tQ iQ kq_14 := ek_good_ok (sp := sQ) (K := []) (SP := []) (HS := []) (N := 0) (fuel := 18) hIQ (fun _ h => absurd h List.not_mem_nil) (by decide +kernel)
def kq_15 : ek := (138, [.inr 86, .inl ((-2147483648), (-1)), .inl ((-2147483648), 2147483647)], [], [], [(some (.inl (0, 0)), [])], 1, 22)
/-- LoadsAheadModel poke -/
theorem qk_15 (l : Launch) : ek_ok l tQ iQ kq_15 := ek_good_ok (sp := sQ) (K := [kq_14]) (SP := [(4, [(2, [(-1), 63])])]) (HS := []) (N := 0) (fuel := 22) hIQ (List.forall_mem_cons.mpr ⟨qk_14 l, fun _ h => absurd h List.not_mem_nil⟩) (by decide +kernel)
def kq_16 : ek := (137, [.inl (64, 2147483647), .inl (0, 0), .inl (63, 63)], [], [], [(some (.inl (0, 0)), [])], 0, 0)
/-- LoadsAheadModel in -/
theorem qk_16 (l : Launch) : ek_ok l tQ iQ kq_16 := ek_good_ok (sp := sQ) (K := []) (SP := []) (HS := []) (N := 0) (fuel := 24) hIQ (fun _ h => absurd h List.not_mem_nil) (by decide +kernel)
def kq_17 : ek := (138, [.inr 86, .inl (64, 2147483647), .inl ((-2147483648), 2147483647)], [], [], [(some (.inl (0, 0)), [])], 1, 22)
/-- LoadsAheadModel poke -/
theorem qk_17 (l : Launch) : ek_ok l tQ iQ kq_17 := ek_good_ok (sp := sQ) (K := [kq_16]) (SP := [(4, [(2, [(-1), 63])])]) (HS := []) (N := 0) (fuel := 22) hIQ (List.forall_mem_cons.mpr ⟨qk_16 l, fun _ h => absurd h List.not_mem_nil⟩) (by decide +kernel)
def kq_18 : ek := (137, [.inl ((-2147483648), (-1)), .inl (0, 0), .inl (255, 255)], [], [], [(some (.inl (0, 0)), [])], 0, 0)
/-- LoadsAheadModel in -/
theorem qk_18 (l : Launch) : ek_ok l tQ iQ kq_18 := ek_good_ok (sp := sQ) (K := []) (SP := []) (HS := []) (N := 0) (fuel := 18) hIQ (fun _ h => absurd h List.not_mem_nil) (by decide +kernel)
def kq_19 : ek := (137, [.inl (0, 63), .inl (0, 0), .inl (63, 63)], [], [], [(some (.inl (1, 1)), [])], 0, 0)
/-- LoadsAheadModel in -/
theorem qk_19 (l : Launch) : ek_ok l tQ iQ kq_19 := ek_good_ok (sp := sQ) (K := []) (SP := []) (HS := []) (N := 0) (fuel := 26) hIQ (fun _ h => absurd h List.not_mem_nil) (by decide +kernel)
def kq_20 : ek := (138, [.inr 86, .inl (0, 63), .inl ((-2147483648), (-1))], [], [], [(some (.inl (0, 0)), [])], 1, 22)
/-- LoadsAheadModel poke -/
theorem qk_20 (l : Launch) : ek_ok l tQ iQ kq_20 := ek_good_ok (sp := sQ) (K := [kq_19, kq_18]) (SP := [(4, [(2, [(-1), 63])]), (15, [(2, [(-1), 255])])]) (HS := []) (N := 0) (fuel := 32) hIQ (List.forall_mem_cons.mpr ⟨qk_19 l, List.forall_mem_cons.mpr ⟨qk_18 l, fun _ h => absurd h List.not_mem_nil⟩⟩) (by decide +kernel)
def kq_21 : ek := (137, [.inl (0, 255), .inl (0, 0), .inl (255, 255)], [], [], [(some (.inl (1, 1)), [])], 0, 0)
/-- LoadsAheadModel in -/
theorem qk_21 (l : Launch) : ek_ok l tQ iQ kq_21 := ek_good_ok (sp := sQ) (K := []) (SP := []) (HS := []) (N := 0) (fuel := 26) hIQ (fun _ h => absurd h List.not_mem_nil) (by decide +kernel)
def kq_22 : ek := (138, [.inr 86, .inl (0, 63), .inl (0, 255)], [], [(86, 999)], [(some (.inl (1, 1)), [])], 1, 22)
/-- LoadsAheadModel poke -/
theorem qk_22 (l : Launch) : ek_ok l tQ iQ kq_22 := ek_good_ok (sp := sQ) (K := [kq_19, kq_21]) (SP := [(4, [(2, [(-1), 63])]), (15, [(2, [(-1), 255])])]) (HS := []) (N := 0) (fuel := 42) hIQ (List.forall_mem_cons.mpr ⟨qk_19 l, List.forall_mem_cons.mpr ⟨qk_21 l, fun _ h => absurd h List.not_mem_nil⟩⟩) (by decide +kernel)
def kq_23 : ek := (137, [.inl (256, 2147483647), .inl (0, 0), .inl (255, 255)], [], [], [(some (.inl (0, 0)), [])], 0, 0)
/-- LoadsAheadModel in -/
theorem qk_23 (l : Launch) : ek_ok l tQ iQ kq_23 := ek_good_ok (sp := sQ) (K := []) (SP := []) (HS := []) (N := 0) (fuel := 24) hIQ (fun _ h => absurd h List.not_mem_nil) (by decide +kernel)
def kq_24 : ek := (138, [.inr 86, .inl (0, 63), .inl (256, 2147483647)], [], [], [(some (.inl (0, 0)), [])], 1, 22)
/-- LoadsAheadModel poke -/
theorem qk_24 (l : Launch) : ek_ok l tQ iQ kq_24 := ek_good_ok (sp := sQ) (K := [kq_19, kq_23]) (SP := [(4, [(2, [(-1), 63])]), (15, [(2, [(-1), 255])])]) (HS := []) (N := 0) (fuel := 32) hIQ (List.forall_mem_cons.mpr ⟨qk_19 l, List.forall_mem_cons.mpr ⟨qk_23 l, fun _ h => absurd h List.not_mem_nil⟩⟩) (by decide +kernel)
def kq_25 : ek := (13, [.inr 3, .inl ((-2147483648), 2147483647)], [], [(1, 1), (2, 999)], [(none, [])], 0, 0)
/-- LoadsAhead.Tape add -/
theorem qk_25 (l : Launch) : ek_ok l tQ iQ kq_25 := ek_good_ok (sp := sQ) (K := []) (SP := []) (HS := [((3, [some (.inr 3, none), some (.inl ((-2147483648), 2147483647), none), some (.inl ((-128), 24), none)], [], [], []), [(0, (0, 0, 0), 0), (2, (1, 2, 0), (-128)), (0, (0, 0, 0), 0)])]) (N := 3) (fuel := 58) hIQ (fun _ h => absurd h List.not_mem_nil) (by decide +kernel)
def kq_26 : ek := (12, [.inr 2, .inl ((-2147483648), 2147483647), .inl ((-2147483648), 2147483647), .inl ((-2147483648), 2147483647), .inl ((-2147483648), 2147483647), .inl ((-2147483648), 2147483647)], [], [(1, 1), (2, 999)], [(some (.inl ((-1), (-1))), [((2, 1, 1), (241, 260), none)]), (some (.inl (0, 260)), [])], 1, 22)
/-- LoadsAhead feed -/
theorem qk_26 (l : Launch) : ek_ok l tQ iQ kq_26 := ek_good_ok (sp := sQ) (K := [kq_25]) (SP := []) (HS := []) (N := 0) (fuel := 70) hIQ (List.forall_mem_cons.mpr ⟨qk_25 l, fun _ h => absurd h List.not_mem_nil⟩) (by decide +kernel)
def kq_27 : ek := (140, [.inr 86, .inl ((-2147483648), 2147483647)], [((2, 84, 18), (0, 240), none)], [(84, 18), (96, 999)], [(none, [((2, 84, 18), (4, 244), none)])], 0, 0)
/-- LoadsAheadModel types -/
theorem qk_27 (l : Launch) : ek_ok l tQ iQ kq_27 := ek_good_ok (sp := sQ) (K := []) (SP := []) (HS := []) (N := 0) (fuel := 186) hIQ (fun _ h => absurd h List.not_mem_nil) (by decide +kernel)
def kq_28 : ek := (140, [.inr 86, .inl ((-2147483648), 2147483647)], [((2, 84, 18), (12, 252), none)], [(84, 18), (96, 999)], [(none, [((2, 84, 18), (16, 256), none)])], 0, 0)
/-- LoadsAheadModel types -/
theorem qk_28 (l : Launch) : ek_ok l tQ iQ kq_28 := ek_good_ok (sp := sQ) (K := []) (SP := []) (HS := []) (N := 0) (fuel := 186) hIQ (fun _ h => absurd h List.not_mem_nil) (by decide +kernel)
def kq_29 : ek := (140, [.inr 86, .inl ((-2147483648), 2147483647)], [((2, 84, 18), (16, 256), none)], [(84, 18), (96, 999)], [(none, [((2, 84, 18), (20, 260), none)])], 0, 0)
/-- LoadsAheadModel types -/
theorem qk_29 (l : Launch) : ek_ok l tQ iQ kq_29 := ek_good_ok (sp := sQ) (K := []) (SP := []) (HS := []) (N := 0) (fuel := 186) hIQ (fun _ h => absurd h List.not_mem_nil) (by decide +kernel)
def kq_30 : ek := (140, [.inr 86, .inl ((-2147483648), 2147483647)], [((2, 84, 18), (4, 244), none)], [(84, 18), (96, 999)], [(none, [((2, 84, 18), (8, 248), none)])], 0, 0)
/-- LoadsAheadModel types -/
theorem qk_30 (l : Launch) : ek_ok l tQ iQ kq_30 := ek_good_ok (sp := sQ) (K := []) (SP := []) (HS := []) (N := 0) (fuel := 186) hIQ (fun _ h => absurd h List.not_mem_nil) (by decide +kernel)
def kq_31 : ek := (140, [.inr 86, .inl ((-2147483648), 2147483647)], [((2, 84, 18), (8, 248), none)], [(84, 18), (96, 999)], [(none, [((2, 84, 18), (12, 252), none)])], 0, 0)
/-- LoadsAheadModel types -/
theorem qk_31 (l : Launch) : ek_ok l tQ iQ kq_31 := ek_good_ok (sp := sQ) (K := []) (SP := []) (HS := []) (N := 0) (fuel := 186) hIQ (fun _ h => absurd h List.not_mem_nil) (by decide +kernel)
def kq_32 : ek := (139, [.inr 86, .inl ((-2147483648), 2147483647), .inl ((-2147483648), 2147483647), .inl ((-2147483648), 2147483647), .inl ((-2147483648), 2147483647), .inl ((-2147483648), 2147483647)], [], [(84, 18), (96, 999)], [(some (.inl ((-1), (-1))), [((2, 84, 18), (241, 260), none)]), (some (.inl (20, 260)), [((2, 84, 18), (20, 260), none)])], 1, 22)
/-- LoadsAheadModel feed -/
theorem qk_32 (l : Launch) : ek_ok l tQ iQ kq_32 := ek_good_ok (sp := sQ) (K := [kq_30, kq_29, kq_28, kq_31, kq_27]) (SP := []) (HS := []) (N := 0) (fuel := 56) hIQ (List.forall_mem_cons.mpr ⟨qk_30 l, List.forall_mem_cons.mpr ⟨qk_29 l, List.forall_mem_cons.mpr ⟨qk_28 l, List.forall_mem_cons.mpr ⟨qk_31 l, List.forall_mem_cons.mpr ⟨qk_27 l, fun _ h => absurd h List.not_mem_nil⟩⟩⟩⟩⟩) (by decide +kernel)
def kq_33 : ek := (14, [.inr 2, .inl ((-2147483648), 0)], [], [], [(some (.inl ((-1), (-1))), [])], 0, 0)
/-- LoadsAhead law -/
theorem qk_33 (l : Launch) : ek_ok l tQ iQ kq_33 := ek_good_ok (sp := sQ) (K := []) (SP := []) (HS := []) (N := 0) (fuel := 18) hIQ (fun _ h => absurd h List.not_mem_nil) (by decide +kernel)
def kq_34 : ek := (15, [.inr 3, .inl (0, 240)], [], [(1, 2), (1, 3), (1, 4)], [(none, [((2, 1, 2), (0, 240), none), ((2, 1, 3), (0, 0), none), ((2, 1, 4), (0, 0), none)])], 1, 16)
/-- LoadsAhead.Tape beginText -/
theorem qk_34 (l : Launch) : ek_ok l tQ iQ kq_34 := ek_good_ok (sp := sQ) (K := []) (SP := []) (HS := []) (N := 0) (fuel := 34) hIQ (fun _ h => absurd h List.not_mem_nil) (by decide +kernel)
def kq_35 : ek := (19, [.inr 3], [], [], [(some (.inl (0, 255)), [((2, 1, 2), (1, 260), none), ((2, 1, 3), (0, 259), none)]), (some (.inl ((-1), (-1))), [])], 0, 0)
/-- LoadsAhead.Tape sign -/
theorem qk_35 (l : Launch) : ek_ok l tQ iQ kq_35 := ek_good_ok (sp := sQ) (K := []) (SP := []) (HS := []) (N := 0) (fuel := 46) hIQ (fun _ h => absurd h List.not_mem_nil) (by decide +kernel)
def kq_36 : ek := (20, [.inr 3, .inl (1, 1)], [], [(1, 4)], [(some (.inl (0, 0)), [])], 0, 0)
/-- LoadsAhead.Tape fail -/
theorem qk_36 (l : Launch) : ek_ok l tQ iQ kq_36 := ek_good_ok (sp := sQ) (K := []) (SP := []) (HS := []) (N := 0) (fuel := 28) hIQ (fun _ h => absurd h List.not_mem_nil) (by decide +kernel)
def kq_37 : ek := (21, [.inr 3], [], [(1, 3)], [(none, [])], 0, 0)
/-- LoadsAhead.Tape step -/
theorem qk_37 (l : Launch) : ek_ok l tQ iQ kq_37 := ek_good_ok (sp := sQ) (K := []) (SP := []) (HS := []) (N := 0) (fuel := 22) hIQ (fun _ h => absurd h List.not_mem_nil) (by decide +kernel)
def kq_38 : ek := (20, [.inr 3, .inl (5, 5)], [], [(1, 4)], [(some (.inl (0, 0)), [])], 0, 0)
/-- LoadsAhead.Tape fail -/
theorem qk_38 (l : Launch) : ek_ok l tQ iQ kq_38 := ek_good_ok (sp := sQ) (K := []) (SP := []) (HS := []) (N := 0) (fuel := 28) hIQ (fun _ h => absurd h List.not_mem_nil) (by decide +kernel)
def kq_39 : ek := (25, [.inr 3, .inl (6, 6)], [], [(1, 4)], [(some (.inl (0, 0)), [])], 1, 21)
/-- LoadsAhead.Law opens -/
theorem qk_39 (l : Launch) : ek_ok l tQ iQ kq_39 := ek_good_ok (sp := sQ) (K := [kq_38]) (SP := []) (HS := []) (N := 0) (fuel := 22) hIQ (List.forall_mem_cons.mpr ⟨qk_38 l, fun _ h => absurd h List.not_mem_nil⟩) (by decide +kernel)
def kq_40 : ek := (27, [.inr 3], [], [], [(some (.inl (0, 0)), []), (some (.inl (1, 1)), [((2, 1, 2), (1, 260), none), ((2, 1, 3), (0, 259), none)])], 1, 20)
/-- LoadsAhead.Tape digitNext -/
theorem qk_40 (l : Launch) : ek_ok l tQ iQ kq_40 := ek_good_ok (sp := sQ) (K := [kq_35]) (SP := []) (HS := []) (N := 0) (fuel := 30) hIQ (List.forall_mem_cons.mpr ⟨qk_35 l, fun _ h => absurd h List.not_mem_nil⟩) (by decide +kernel)
def kq_41 : ek := (20, [.inr 3, .inl (2, 2)], [], [(1, 4)], [(some (.inl (0, 0)), [])], 0, 0)
/-- LoadsAhead.Tape fail -/
theorem qk_41 (l : Launch) : ek_ok l tQ iQ kq_41 := ek_good_ok (sp := sQ) (K := []) (SP := []) (HS := []) (N := 0) (fuel := 28) hIQ (fun _ h => absurd h List.not_mem_nil) (by decide +kernel)
def kq_42 : ek := (28, [.inr 3, .inl (5, 5)], [], [(1, 3), (1, 4)], [(some (.inl ((-1), (-1))), []), (some (.inl ((-2147483648), 2147483647)), [])], 2, 40)
/-- LoadsAhead.Tape readDigits -/
theorem qk_42 (l : Launch) : ek_ok l tQ iQ kq_42 := ek_good_ok (sp := sQ) (K := [kq_41, kq_40, kq_36, kq_35]) (SP := []) (HS := [((4, [some (.inr 3, none), some (.inl (5, 5), none), some (.inl ((-2147483648), 2147483647), none), some (.inl (0, 5), none)], [], [], []), [(0, (0, 0, 0), 0), (1, (1, 3, 0), 5), (0, (0, 0, 0), 0)])]) (N := 3) (fuel := 66) hIQ (List.forall_mem_cons.mpr ⟨qk_41 l, List.forall_mem_cons.mpr ⟨qk_40 l, List.forall_mem_cons.mpr ⟨qk_36 l, List.forall_mem_cons.mpr ⟨qk_35 l, fun _ h => absurd h List.not_mem_nil⟩⟩⟩⟩) (by decide +kernel)
def kq_44 : ek := (31, [.inl ((-1), (-1)), .inl (42, 42), .inl (47, 47), .inl (37, 37)], [], [], [(some (.inl (0, 0)), [])], 0, 0)
/-- LoadsAhead.Law isOneOf -/
theorem qk_44 (l : Launch) : ek_ok l tQ iQ kq_44 := ek_good_ok (sp := sQ) (K := []) (SP := []) (HS := []) (N := 0) (fuel := 30) hIQ (fun _ h => absurd h List.not_mem_nil) (by decide +kernel)
def kq_45 : ek := (31, [.inl (0, 255), .inl (42, 42), .inl (47, 47), .inl (37, 37)], [], [], [(some (.inl (1, 1)), []), (some (.inl (0, 0)), [])], 0, 0)
/-- LoadsAhead.Law isOneOf -/
theorem qk_45 (l : Launch) : ek_ok l tQ iQ kq_45 := ek_good_ok (sp := sQ) (K := []) (SP := []) (HS := []) (N := 0) (fuel := 32) hIQ (fun _ h => absurd h List.not_mem_nil) (by decide +kernel)
def kq_47 : ek := (31, [.inl ((-1), (-1)), .inl (43, 43), .inl (45, 45), .inl (45, 45)], [], [], [(some (.inl (0, 0)), [])], 0, 0)
/-- LoadsAhead.Law isOneOf -/
theorem qk_47 (l : Launch) : ek_ok l tQ iQ kq_47 := ek_good_ok (sp := sQ) (K := []) (SP := []) (HS := []) (N := 0) (fuel := 30) hIQ (fun _ h => absurd h List.not_mem_nil) (by decide +kernel)
def kq_48 : ek := (31, [.inl (0, 255), .inl (43, 43), .inl (45, 45), .inl (45, 45)], [], [], [(some (.inl (1, 1)), []), (some (.inl (0, 0)), [])], 0, 0)
/-- LoadsAhead.Law isOneOf -/
theorem qk_48 (l : Launch) : ek_ok l tQ iQ kq_48 := ek_good_ok (sp := sQ) (K := []) (SP := []) (HS := []) (N := 0) (fuel := 32) hIQ (fun _ h => absurd h List.not_mem_nil) (by decide +kernel)
def kq_50 : ek := (25, [.inr 3, .inl (5, 5)], [], [(1, 3)], [(some (.inl (1, 1)), [])], 1, 20)
/-- LoadsAhead.Law opens -/
theorem qk_50 (l : Launch) : ek_ok l tQ iQ kq_50 := ek_good_ok (sp := sQ) (K := [kq_37]) (SP := []) (HS := []) (N := 0) (fuel := 22) hIQ (List.forall_mem_cons.mpr ⟨qk_37 l, fun _ h => absurd h List.not_mem_nil⟩) (by decide +kernel)
def kq_51 : ek := (26, [.inr 3, .inl (93, 93)], [], [(1, 3), (1, 4)], [(some (.inl (0, 0)), []), (some (.inl (1, 1)), [((2, 1, 2), (1, 260), none), ((2, 1, 3), (1, 260), none)])], 1, 21)
/-- LoadsAhead.Tape accept -/
theorem qk_51 (l : Launch) : ek_ok l tQ iQ kq_51 := ek_good_ok (sp := sQ) (K := [kq_36, kq_35]) (SP := []) (HS := []) (N := 0) (fuel := 32) hIQ (List.forall_mem_cons.mpr ⟨qk_36 l, List.forall_mem_cons.mpr ⟨qk_35 l, fun _ h => absurd h List.not_mem_nil⟩⟩) (by decide +kernel)
def kq_55 : ek := (25, [.inr 3, .inl (4, 4)], [], [(1, 3)], [(some (.inl (1, 1)), [])], 1, 20)
/-- LoadsAhead.Law opens -/
theorem qk_55 (l : Launch) : ek_ok l tQ iQ kq_55 := ek_good_ok (sp := sQ) (K := [kq_37]) (SP := []) (HS := []) (N := 0) (fuel := 22) hIQ (List.forall_mem_cons.mpr ⟨qk_37 l, fun _ h => absurd h List.not_mem_nil⟩) (by decide +kernel)
def kq_59 : ek := (25, [.inr 3, .inl (3, 3)], [], [(1, 3)], [(some (.inl (1, 1)), [])], 1, 20)
/-- LoadsAhead.Law opens -/
theorem qk_59 (l : Launch) : ek_ok l tQ iQ kq_59 := ek_good_ok (sp := sQ) (K := [kq_37]) (SP := []) (HS := []) (N := 0) (fuel := 22) hIQ (List.forall_mem_cons.mpr ⟨qk_37 l, fun _ h => absurd h List.not_mem_nil⟩) (by decide +kernel)
def kq_63 : ek := (25, [.inr 3, .inl (2, 2)], [], [(1, 3)], [(some (.inl (1, 1)), [])], 1, 20)
/-- LoadsAhead.Law opens -/
theorem qk_63 (l : Launch) : ek_ok l tQ iQ kq_63 := ek_good_ok (sp := sQ) (K := [kq_37]) (SP := []) (HS := []) (N := 0) (fuel := 22) hIQ (List.forall_mem_cons.mpr ⟨qk_37 l, fun _ h => absurd h List.not_mem_nil⟩) (by decide +kernel)
def kq_67 : ek := (25, [.inr 3, .inl (1, 1)], [], [(1, 3)], [(some (.inl (1, 1)), [])], 1, 20)
/-- LoadsAhead.Law opens -/
theorem qk_67 (l : Launch) : ek_ok l tQ iQ kq_67 := ek_good_ok (sp := sQ) (K := [kq_37]) (SP := []) (HS := []) (N := 0) (fuel := 22) hIQ (List.forall_mem_cons.mpr ⟨qk_37 l, fun _ h => absurd h List.not_mem_nil⟩) (by decide +kernel)
def kq_71 : ek := (25, [.inr 3, .inl (0, 0)], [], [(1, 3)], [(some (.inl (1, 1)), [])], 1, 20)
/-- LoadsAhead.Law opens -/
theorem qk_71 (l : Launch) : ek_ok l tQ iQ kq_71 := ek_good_ok (sp := sQ) (K := [kq_37]) (SP := []) (HS := []) (N := 0) (fuel := 22) hIQ (List.forall_mem_cons.mpr ⟨qk_37 l, fun _ h => absurd h List.not_mem_nil⟩) (by decide +kernel)
def kq_75 : ek := (26, [.inr 3, .inl (40, 40)], [], [(1, 3), (1, 4)], [(some (.inl (0, 0)), []), (some (.inl (1, 1)), [((2, 1, 2), (1, 260), none), ((2, 1, 3), (1, 260), none)])], 1, 21)
/-- LoadsAhead.Tape accept -/
theorem qk_75 (l : Launch) : ek_ok l tQ iQ kq_75 := ek_good_ok (sp := sQ) (K := [kq_36, kq_35]) (SP := []) (HS := []) (N := 0) (fuel := 32) hIQ (List.forall_mem_cons.mpr ⟨qk_36 l, List.forall_mem_cons.mpr ⟨qk_35 l, fun _ h => absurd h List.not_mem_nil⟩⟩) (by decide +kernel)
def kq_76 : ek := (26, [.inr 3, .inl (41, 41)], [], [(1, 3), (1, 4)], [(some (.inl (0, 0)), []), (some (.inl (1, 1)), [((2, 1, 2), (1, 260), none), ((2, 1, 3), (1, 260), none)])], 1, 21)
/-- LoadsAhead.Tape accept -/
theorem qk_76 (l : Launch) : ek_ok l tQ iQ kq_76 := ek_good_ok (sp := sQ) (K := [kq_36, kq_35]) (SP := []) (HS := []) (N := 0) (fuel := 32) hIQ (List.forall_mem_cons.mpr ⟨qk_36 l, List.forall_mem_cons.mpr ⟨qk_35 l, fun _ h => absurd h List.not_mem_nil⟩⟩) (by decide +kernel)
def kq_96 : ek := (20, [.inr 3, .inl (4, 4)], [], [(1, 4)], [(some (.inl (0, 0)), [])], 0, 0)
/-- LoadsAhead.Tape fail -/
theorem qk_96 (l : Launch) : ek_ok l tQ iQ kq_96 := ek_good_ok (sp := sQ) (K := []) (SP := []) (HS := []) (N := 0) (fuel := 28) hIQ (fun _ h => absurd h List.not_mem_nil) (by decide +kernel)
def kq_97 : ek := (18, [.inr 59, .inr 3, .inl (16, 16)], [], [(1, 4)], [(some (.inl (0, 0)), [])], 1, 21)
/-- LoadsAhead.Law readRule -/
theorem qk_97 (l : Launch) : ek_ok l tQ iQ kq_97 := ek_good_ok (sp := sQ) (K := [kq_96, kq_36, kq_35]) (SP := []) (HS := []) (N := 0) (fuel := 40) hIQ (List.forall_mem_cons.mpr ⟨qk_96 l, List.forall_mem_cons.mpr ⟨qk_36 l, List.forall_mem_cons.mpr ⟨qk_35 l, fun _ h => absurd h List.not_mem_nil⟩⟩⟩) (by decide +kernel)
def kq_98 : ek := (26, [.inr 3, .inl (59, 59)], [], [(1, 3), (1, 4)], [(some (.inl (0, 0)), []), (some (.inl (1, 1)), [((2, 1, 2), (1, 260), none), ((2, 1, 3), (1, 260), none)])], 1, 21)
/-- LoadsAhead.Tape accept -/
theorem qk_98 (l : Launch) : ek_ok l tQ iQ kq_98 := ek_good_ok (sp := sQ) (K := [kq_36, kq_35]) (SP := []) (HS := []) (N := 0) (fuel := 32) hIQ (List.forall_mem_cons.mpr ⟨qk_36 l, List.forall_mem_cons.mpr ⟨qk_35 l, fun _ h => absurd h List.not_mem_nil⟩⟩) (by decide +kernel)
def kq_99 : ek := (36, [.inr 3], [], [], [(some (.inl ((-2147483648), 2147483647)), [])], 0, 0)
/-- LoadsAhead.Tape fault -/
theorem qk_99 (l : Launch) : ek_ok l tQ iQ kq_99 := ek_good_ok (sp := sQ) (K := []) (SP := []) (HS := []) (N := 0) (fuel := 14) hIQ (fun _ h => absurd h List.not_mem_nil) (by decide +kernel)
def kq_100 : ek := (37, [.inr 3], [], [], [(some (.inl (1, 1)), [((2, 1, 3), (0, 2147483647), none)]), (some (.inl (0, 0)), [((2, 1, 3), ((-2147483648), 259), none)])], 0, 0)
/-- LoadsAhead.Tape ended -/
theorem qk_100 (l : Launch) : ek_ok l tQ iQ kq_100 := ek_good_ok (sp := sQ) (K := []) (SP := []) (HS := []) (N := 0) (fuel := 24) hIQ (fun _ h => absurd h List.not_mem_nil) (by decide +kernel)
def kq_102 : ek := (38, [.inr 18, .inr 59], [], [(16, 7), (17, 999), (18, 999), (19, 999), (20, 999), (21, 999)], [(none, [])], 1, 65)
/-- LoadsAhead.Law copyFrom -/
theorem qk_102 (l : Launch) : ek_ok l tQ iQ kq_102 := ek_good_ok (sp := sQ) (K := []) (SP := []) (HS := []) (N := 0) (fuel := 98) hIQ (fun _ h => absurd h List.not_mem_nil) (by decide +kernel)
def kq_103 : ek := (39, [.inr 3], [], [(1, 1)], [(none, [((2, 1, 1), (0, 0), none)])], 0, 0)
/-- LoadsAhead.Tape clear -/
theorem qk_103 (l : Launch) : ek_ok l tQ iQ kq_103 := ek_good_ok (sp := sQ) (K := []) (SP := []) (HS := []) (N := 0) (fuel := 16) hIQ (fun _ h => absurd h List.not_mem_nil) (by decide +kernel)
def kq_115 : ek := (14, [.inr 2, .inl (241, 2147483647)], [], [], [(some (.inl ((-1), (-1))), [])], 0, 0)
/-- LoadsAhead law -/
theorem qk_115 (l : Launch) : ek_ok l tQ iQ kq_115 := ek_good_ok (sp := sQ) (K := []) (SP := []) (HS := []) (N := 0) (fuel := 24) hIQ (fun _ h => absurd h List.not_mem_nil) (by decide +kernel)
def kq_116 : ek := (40, [.inr 2, .inl ((-2147483648), 0)], [], [], [(some (.inl ((-1), (-1))), [])], 0, 0)
/-- LoadsAhead program -/
theorem qk_116 (l : Launch) : ek_ok l tQ iQ kq_116 := ek_good_ok (sp := sQ) (K := []) (SP := []) (HS := []) (N := 0) (fuel := 18) hIQ (fun _ h => absurd h List.not_mem_nil) (by decide +kernel)
def kq_117 : ek := (43, [.inl ((-1), (-1))], [], [], [(some (.inl ((-1), (-1))), [])], 0, 0)
/-- LoadsAhead.Program kindOf -/
theorem qk_117 (l : Launch) : ek_ok l tQ iQ kq_117 := ek_good_ok (sp := sQ) (K := []) (SP := []) (HS := []) (N := 0) (fuel := 16) hIQ (fun _ h => absurd h List.not_mem_nil) (by decide +kernel)
def kq_118 : ek := (43, [.inl (0, 255)], [], [], [(some (.inl ((-1), (-1))), []), (some (.inl (0, 3)), [])], 0, 0)
/-- LoadsAhead.Program kindOf -/
theorem qk_118 (l : Launch) : ek_ok l tQ iQ kq_118 := ek_good_ok (sp := sQ) (K := []) (SP := []) (HS := []) (N := 0) (fuel := 16) hIQ (fun _ h => absurd h List.not_mem_nil) (by decide +kernel)
