def kq_1012 : ek := (109, [.inr 2, .inl (164, 2147483647)], [], [], [(some (.inl ((-100000), (-100000))), [])], 1, 20)
/-- LoadsAhead now -/
theorem qk_1012 (l : Launch) : ek_ok l tQ iQ kq_1012 := ek_good_ok (sp := sQ) (K := [kq_1011, kq_912]) (SP := [(1, [(0, [(-1), 7])]), (21, [(0, [99, 163])])]) (HS := []) (N := 0) (fuel := 24) hIQ (List.forall_mem_cons.mpr ⟨qk_1011 l, List.forall_mem_cons.mpr ⟨qk_912 l, fun _ h => absurd h List.not_mem_nil⟩⟩) (by decide +kernel)
def kq_1013 : ek := (137, [.inl ((-2147483648), (-1)), .inl (100, 100), .inl (163, 163)], [], [], [(some (.inl (0, 0)), [])], 0, 0)
/-- LoadsAheadModel in -/
theorem qk_1013 (l : Launch) : ek_ok l tQ iQ kq_1013 := ek_good_ok (sp := sQ) (K := []) (SP := []) (HS := []) (N := 0) (fuel := 18) hIQ (fun _ h => absurd h List.not_mem_nil) (by decide +kernel)
def kq_1014 : ek := (217, [.inr 86, .inl ((-2147483648), (-1))], [], [], [(some (.inl ((-100000), (-100000))), [])], 1, 22)
/-- LoadsAheadModel now -/
theorem qk_1014 (l : Launch) : ek_ok l tQ iQ kq_1014 := ek_good_ok (sp := sQ) (K := [kq_3, kq_1013]) (SP := [(4, [(2, [(-1), 7])]), (25, [(2, [99, 163])])]) (HS := []) (N := 0) (fuel := 32) hIQ (List.forall_mem_cons.mpr ⟨qk_3 l, List.forall_mem_cons.mpr ⟨qk_1013 l, fun _ h => absurd h List.not_mem_nil⟩⟩) (by decide +kernel)
def kq_1015 : ek := (217, [.inr 86, .inl (0, 7)], [], [], [(some (.inl ((-2147483648), 2147483647)), [])], 1, 22)
/-- LoadsAheadModel now -/
theorem qk_1015 (l : Launch) : ek_ok l tQ iQ kq_1015 := ek_good_ok (sp := sQ) (K := [kq_5]) (SP := [(4, [(2, [(-1), 7])])]) (HS := []) (N := 0) (fuel := 30) hIQ (List.forall_mem_cons.mpr ⟨qk_5 l, fun _ h => absurd h List.not_mem_nil⟩) (by decide +kernel)
def kq_1016 : ek := (137, [.inl (8, 99), .inl (0, 0), .inl (7, 7)], [], [], [(some (.inl (0, 0)), [])], 0, 0)
/-- LoadsAheadModel in -/
theorem qk_1016 (l : Launch) : ek_ok l tQ iQ kq_1016 := ek_good_ok (sp := sQ) (K := []) (SP := []) (HS := []) (N := 0) (fuel := 24) hIQ (fun _ h => absurd h List.not_mem_nil) (by decide +kernel)
def kq_1017 : ek := (137, [.inl (8, 99), .inl (100, 100), .inl (163, 163)], [], [], [(some (.inl (0, 0)), [])], 0, 0)
/-- LoadsAheadModel in -/
theorem qk_1017 (l : Launch) : ek_ok l tQ iQ kq_1017 := ek_good_ok (sp := sQ) (K := []) (SP := []) (HS := []) (N := 0) (fuel := 18) hIQ (fun _ h => absurd h List.not_mem_nil) (by decide +kernel)
def kq_1018 : ek := (217, [.inr 86, .inl (8, 99)], [], [], [(some (.inl ((-100000), (-100000))), [])], 1, 22)
/-- LoadsAheadModel now -/
theorem qk_1018 (l : Launch) : ek_ok l tQ iQ kq_1018 := ek_good_ok (sp := sQ) (K := [kq_1017, kq_1016]) (SP := [(4, [(2, [(-1), 7])]), (25, [(2, [99, 163])])]) (HS := []) (N := 0) (fuel := 32) hIQ (List.forall_mem_cons.mpr ⟨qk_1017 l, List.forall_mem_cons.mpr ⟨qk_1016 l, fun _ h => absurd h List.not_mem_nil⟩⟩) (by decide +kernel)
def kq_1019 : ek := (137, [.inl (100, 163), .inl (0, 0), .inl (7, 7)], [], [], [(some (.inl (0, 0)), [])], 0, 0)
/-- LoadsAheadModel in -/
theorem qk_1019 (l : Launch) : ek_ok l tQ iQ kq_1019 := ek_good_ok (sp := sQ) (K := []) (SP := []) (HS := []) (N := 0) (fuel := 24) hIQ (fun _ h => absurd h List.not_mem_nil) (by decide +kernel)
def kq_1020 : ek := (217, [.inr 86, .inl (100, 163)], [], [], [(some (.inl ((-2147483648), 2147483647)), [])], 1, 22)
/-- LoadsAheadModel now -/
theorem qk_1020 (l : Launch) : ek_ok l tQ iQ kq_1020 := ek_good_ok (sp := sQ) (K := [kq_946, kq_1019]) (SP := [(4, [(2, [(-1), 7])]), (25, [(2, [99, 163])])]) (HS := []) (N := 0) (fuel := 44) hIQ (List.forall_mem_cons.mpr ⟨qk_946 l, List.forall_mem_cons.mpr ⟨qk_1019 l, fun _ h => absurd h List.not_mem_nil⟩⟩) (by decide +kernel)
def kq_1021 : ek := (137, [.inl (164, 2147483647), .inl (0, 0), .inl (7, 7)], [], [], [(some (.inl (0, 0)), [])], 0, 0)
/-- LoadsAheadModel in -/
theorem qk_1021 (l : Launch) : ek_ok l tQ iQ kq_1021 := ek_good_ok (sp := sQ) (K := []) (SP := []) (HS := []) (N := 0) (fuel := 24) hIQ (fun _ h => absurd h List.not_mem_nil) (by decide +kernel)
def kq_1022 : ek := (217, [.inr 86, .inl (164, 2147483647)], [], [], [(some (.inl ((-100000), (-100000))), [])], 1, 22)
/-- LoadsAheadModel now -/
theorem qk_1022 (l : Launch) : ek_ok l tQ iQ kq_1022 := ek_good_ok (sp := sQ) (K := [kq_1021, kq_950]) (SP := [(4, [(2, [(-1), 7])]), (25, [(2, [99, 163])])]) (HS := []) (N := 0) (fuel := 32) hIQ (List.forall_mem_cons.mpr ⟨qk_1021 l, List.forall_mem_cons.mpr ⟨qk_950 l, fun _ h => absurd h List.not_mem_nil⟩⟩) (by decide +kernel)
def kq_1023 : ek := (110, [.inr 2, .inl ((-2147483648), (-1))], [], [], [(some (.inl ((-100000), (-100000))), [])], 1, 20)
/-- LoadsAhead plain -/
theorem qk_1023 (l : Launch) : ek_ok l tQ iQ kq_1023 := ek_good_ok (sp := sQ) (K := [kq_998, kq_1003]) (SP := [(1, [(0, [(-1), 7])]), (8, [(0, [99, 163])])]) (HS := []) (N := 0) (fuel := 24) hIQ (List.forall_mem_cons.mpr ⟨qk_998 l, List.forall_mem_cons.mpr ⟨qk_1003 l, fun _ h => absurd h List.not_mem_nil⟩⟩) (by decide +kernel)
def kq_1024 : ek := (112, [.inr 67, .inl ((-1), 7)], [], [], [(some (.inl ((-2147483648), 2147483647)), []), (some (.inl (0, 0)), [])], 1, 20)
/-- LoadsAhead.Plain valueIn -/
theorem qk_1024 (l : Launch) : ek_ok l tQ iQ kq_1024 := ek_good_ok (sp := sQ) (K := [kq_131, kq_132]) (SP := [(1, [(0, [(-1), 7])])]) (HS := []) (N := 0) (fuel := 28) hIQ (List.forall_mem_cons.mpr ⟨qk_131 l, List.forall_mem_cons.mpr ⟨qk_132 l, fun _ h => absurd h List.not_mem_nil⟩⟩) (by decide +kernel)
def kq_1025 : ek := (113, [.inr 67, .inl (0, 63), .inl (0, 7)], [], [], [(some (.inl ((-2147483648), 2147483647)), []), (some (.inl (0, 0)), [])], 0, 0)
/-- LoadsAhead.Plain loaded -/
theorem qk_1025 (l : Launch) : ek_ok l tQ iQ kq_1025 := ek_good_ok (sp := sQ) (K := []) (SP := []) (HS := [((5, [some (.inr 67, none), some (.inl (0, 63), none), some (.inl (0, 7), none), some (.inl ((-2147483648), 2147483647), none), some (.inl (0, 7), none)], [], [], []), [(0, (0, 0, 0), 0), (1, (1, 4, 0), 7), (0, (0, 0, 0), 0)])]) (N := 3) (fuel := 52) hIQ (fun _ h => absurd h List.not_mem_nil) (by decide +kernel)
def kq_1026 : ek := (62, [.inr 68, .inr 26], [], [(66, 4), (66, 5), (67, 999), (68, 999)], [(none, [])], 1, 65)
/-- LoadsAhead.State copyCellsFrom -/
theorem qk_1026 (l : Launch) : ek_ok l tQ iQ kq_1026 := ek_good_ok (sp := sQ) (K := []) (SP := []) (HS := []) (N := 0) (fuel := 58) hIQ (fun _ h => absurd h List.not_mem_nil) (by decide +kernel)
def kq_1027 : ek := (63, [.inr 68, .inr 26], [], [(66, 3), (69, 999)], [(none, [])], 1, 65)
/-- LoadsAhead.State copySetsFrom -/
theorem qk_1027 (l : Launch) : ek_ok l tQ iQ kq_1027 := ek_good_ok (sp := sQ) (K := []) (SP := []) (HS := []) (N := 0) (fuel := 34) hIQ (fun _ h => absurd h List.not_mem_nil) (by decide +kernel)
def kq_1028 : ek := (61, [.inr 68, .inr 26], [], [(66, 3), (66, 4), (66, 5), (67, 999), (68, 999), (69, 999)], [(none, [])], 2, 86)
/-- LoadsAhead.State copyFrom -/
theorem qk_1028 (l : Launch) : ek_ok l tQ iQ kq_1028 := ek_good_ok (sp := sQ) (K := [kq_1026, kq_1027]) (SP := []) (HS := []) (N := 0) (fuel := 22) hIQ (List.forall_mem_cons.mpr ⟨qk_1026 l, List.forall_mem_cons.mpr ⟨qk_1027 l, fun _ h => absurd h List.not_mem_nil⟩⟩) (by decide +kernel)
def kq_1029 : ek := (95, [.inr 68, .inl (0, 63), .inl (0, 7), .inl ((-2147483648), 2147483647)], [], [(68, 999)], [(none, [])], 0, 0)
/-- LoadsAhead.State putBytes -/
theorem qk_1029 (l : Launch) : ek_ok l tQ iQ kq_1029 := ek_good_ok (sp := sQ) (K := []) (SP := []) (HS := [((3, [some (.inr 68, none), some (.inl (0, 63), none), some (.inl (0, 7), none), some (.inl ((-2147483648), 2147483647), none), some (.inl (0, 7), none)], [], [], []), [(0, (0, 0, 0), 0), (1, (1, 4, 0), 7), (0, (0, 0, 0), 0)])]) (N := 3) (fuel := 50) hIQ (fun _ h => absurd h List.not_mem_nil) (by decide +kernel)
def kq_1030 : ek := (95, [.inr 68, .inl (0, 63), .inl (0, 7), .inl (0, 0)], [], [(68, 999)], [(none, [])], 0, 0)
/-- LoadsAhead.State putBytes -/
theorem qk_1030 (l : Launch) : ek_ok l tQ iQ kq_1030 := ek_good_ok (sp := sQ) (K := []) (SP := []) (HS := [((3, [some (.inr 68, none), some (.inl (0, 63), none), some (.inl (0, 7), none), some (.inl (0, 0), none), some (.inl (0, 7), none)], [], [], []), [(0, (0, 0, 0), 0), (1, (1, 4, 0), 7), (0, (0, 0, 0), 0)])]) (N := 3) (fuel := 50) hIQ (fun _ h => absurd h List.not_mem_nil) (by decide +kernel)
def kq_1031 : ek := (111, [.inr 67, .inr 6, .inr 26], [], [(66, 3), (66, 4), (66, 5), (67, 999), (68, 999), (69, 999), (70, 999)], [(none, [])], 3, 107)
/-- LoadsAhead.Plain go -/
theorem qk_1031 (l : Launch) : ek_ok l tQ iQ kq_1031 := ek_good_ok (sp := sQ) (K := [kq_1028, kq_131, kq_132, kq_1024, kq_275, kq_258, kq_1030, kq_1025, kq_273, kq_274, kq_257, kq_1029, kq_272]) (SP := [(95, [(0, [(-1), 7])])]) (HS := [((10, [some (.inr 67, none), some (.inr 6, none), some (.inr 26, none), some (.inl (0, 20), none), none, none], [], [], []), [(0, (0, 0, 0), 0), (1, (1, 3, 0), 20), (0, (0, 0, 0), 0)])]) (N := 3) (fuel := 140) hIQ (List.forall_mem_cons.mpr ⟨qk_1028 l, List.forall_mem_cons.mpr ⟨qk_131 l, List.forall_mem_cons.mpr ⟨qk_132 l, List.forall_mem_cons.mpr ⟨qk_1024 l, List.forall_mem_cons.mpr ⟨qk_275 l, List.forall_mem_cons.mpr ⟨qk_258 l, List.forall_mem_cons.mpr ⟨qk_1030 l, List.forall_mem_cons.mpr ⟨qk_1025 l, List.forall_mem_cons.mpr ⟨qk_273 l, List.forall_mem_cons.mpr ⟨qk_274 l, List.forall_mem_cons.mpr ⟨qk_257 l, List.forall_mem_cons.mpr ⟨qk_1029 l, List.forall_mem_cons.mpr ⟨qk_272 l, fun _ h => absurd h List.not_mem_nil⟩⟩⟩⟩⟩⟩⟩⟩⟩⟩⟩⟩⟩) (by decide +kernel)
def kq_1032 : ek := (110, [.inr 2, .inl (0, 7)], [], [(66, 3), (66, 4), (66, 5), (67, 999), (68, 999), (69, 999), (70, 999)], [(some (.inl ((-2147483648), 2147483647)), [])], 4, 132)
/-- LoadsAhead plain -/
theorem qk_1032 (l : Launch) : ek_ok l tQ iQ kq_1032 := ek_good_ok (sp := sQ) (K := [kq_1031, kq_132]) (SP := [(1, [(0, [(-1), 7])]), (39, [(0, [(-1), 7])])]) (HS := []) (N := 0) (fuel := 54) hIQ (List.forall_mem_cons.mpr ⟨qk_1031 l, List.forall_mem_cons.mpr ⟨qk_132 l, fun _ h => absurd h List.not_mem_nil⟩⟩) (by decide +kernel)
def kq_1033 : ek := (110, [.inr 2, .inl (8, 99)], [], [], [(some (.inl ((-100000), (-100000))), [])], 1, 20)
/-- LoadsAhead plain -/
theorem qk_1033 (l : Launch) : ek_ok l tQ iQ kq_1033 := ek_good_ok (sp := sQ) (K := [kq_1006, kq_1007]) (SP := [(1, [(0, [(-1), 7])]), (8, [(0, [99, 163])])]) (HS := []) (N := 0) (fuel := 24) hIQ (List.forall_mem_cons.mpr ⟨qk_1006 l, List.forall_mem_cons.mpr ⟨qk_1007 l, fun _ h => absurd h List.not_mem_nil⟩⟩) (by decide +kernel)
def kq_1034 : ek := (110, [.inr 2, .inl (100, 163)], [], [(66, 3), (66, 4), (66, 5), (67, 999), (68, 999), (69, 999), (70, 999)], [(some (.inl ((-2147483648), 2147483647)), [])], 4, 132)
/-- LoadsAhead plain -/
theorem qk_1034 (l : Launch) : ek_ok l tQ iQ kq_1034 := ek_good_ok (sp := sQ) (K := [kq_1031, kq_1009, kq_908]) (SP := [(1, [(0, [(-1), 7])]), (8, [(0, [99, 163])]), (39, [(0, [(-1), 7])])]) (HS := []) (N := 0) (fuel := 62) hIQ (List.forall_mem_cons.mpr ⟨qk_1031 l, List.forall_mem_cons.mpr ⟨qk_1009 l, List.forall_mem_cons.mpr ⟨qk_908 l, fun _ h => absurd h List.not_mem_nil⟩⟩⟩) (by decide +kernel)
def kq_1035 : ek := (110, [.inr 2, .inl (164, 2147483647)], [], [], [(some (.inl ((-100000), (-100000))), [])], 1, 20)
/-- LoadsAhead plain -/
theorem qk_1035 (l : Launch) : ek_ok l tQ iQ kq_1035 := ek_good_ok (sp := sQ) (K := [kq_1011, kq_912]) (SP := [(1, [(0, [(-1), 7])]), (8, [(0, [99, 163])])]) (HS := []) (N := 0) (fuel := 24) hIQ (List.forall_mem_cons.mpr ⟨qk_1011 l, List.forall_mem_cons.mpr ⟨qk_912 l, fun _ h => absurd h List.not_mem_nil⟩⟩) (by decide +kernel)
def kq_1036 : ek := (220, [.inr 86, .inl (0, 19)], [], [(140, 999), (141, 999), (142, 999)], [(none, [])], 1, 22)
/-- LoadsAheadModel doesPlain -/
theorem qk_1036 (l : Launch) : ek_ok l tQ iQ kq_1036 := ek_good_ok (sp := sQ) (K := [kq_448, kq_430]) (SP := []) (HS := [((128, [some (.inr 86, none), some (.inl (0, 19), none), some (.inl ((-2147483648), 2147483647), none), some (.inl ((-2147483648), 2147483647), none), some (.inl (0, 4), none), none], [], [], []), [(0, (0, 0, 0), 0), (1, (1, 4, 0), 4), (0, (0, 0, 0), 0)])]) (N := 3) (fuel := 92) hIQ (List.forall_mem_cons.mpr ⟨qk_448 l, List.forall_mem_cons.mpr ⟨qk_430 l, fun _ h => absurd h List.not_mem_nil⟩⟩) (by decide +kernel)
def kq_1037 : ek := (219, [.inr 86], [], [(140, 999), (141, 999), (142, 999)], [(none, [])], 2, 47)
/-- LoadsAheadModel goesPlain -/
theorem qk_1037 (l : Launch) : ek_ok l tQ iQ kq_1037 := ek_good_ok (sp := sQ) (K := [kq_1036]) (SP := []) (HS := [((2, [some (.inr 86, none), some (.inl (0, 8), none)], [], [], []), [(0, (0, 0, 0), 2), (1, (1, 1, 0), 8), (0, (0, 0, 0), 0)]), ((28, [some (.inr 86, none), some (.inl (0, 64), none)], [], [], []), [(0, (0, 0, 0), 1), (1, (1, 1, 0), 64), (0, (0, 0, 0), 0)]), ((54, [some (.inr 86, none), some (.inl (0, 20), none)], [], [], []), [(0, (0, 0, 0), 0), (1, (1, 1, 0), 20), (0, (0, 0, 0), 0)])]) (N := 3) (fuel := 36) hIQ (List.forall_mem_cons.mpr ⟨qk_1036 l, fun _ h => absurd h List.not_mem_nil⟩) (by decide +kernel)
def kq_1038 : ek := (218, [.inr 86, .inl ((-2147483648), (-1))], [], [(140, 999), (141, 999), (142, 999)], [(some (.inl ((-100000), (-100000))), [])], 3, 68)
/-- LoadsAheadModel plain -/
theorem qk_1038 (l : Launch) : ek_ok l tQ iQ kq_1038 := ek_good_ok (sp := sQ) (K := [kq_1037, kq_1013, kq_3]) (SP := [(8, [(2, [(-1), 7])]), (29, [(2, [99, 163])])]) (HS := []) (N := 0) (fuel := 36) hIQ (List.forall_mem_cons.mpr ⟨qk_1037 l, List.forall_mem_cons.mpr ⟨qk_1013 l, List.forall_mem_cons.mpr ⟨qk_3 l, fun _ h => absurd h List.not_mem_nil⟩⟩⟩) (by decide +kernel)
def kq_1039 : ek := (220, [.inr 86, .inl (0, 0)], [], [(140, 999), (141, 999), (142, 999)], [(none, [])], 1, 22)
/-- LoadsAheadModel doesPlain -/
theorem qk_1039 (l : Launch) : ek_ok l tQ iQ kq_1039 := ek_good_ok (sp := sQ) (K := [kq_448, kq_430]) (SP := []) (HS := [((128, [some (.inr 86, none), some (.inl (0, 0), none), some (.inl ((-2147483648), 2147483647), none), some (.inl ((-2147483648), 2147483647), none), some (.inl (0, 4), none), none], [], [], []), [(0, (0, 0, 0), 0), (1, (1, 4, 0), 4), (0, (0, 0, 0), 0)])]) (N := 3) (fuel := 92) hIQ (List.forall_mem_cons.mpr ⟨qk_448 l, List.forall_mem_cons.mpr ⟨qk_430 l, fun _ h => absurd h List.not_mem_nil⟩⟩) (by decide +kernel)
def kq_1040 : ek := (220, [.inr 86, .inl (0, 1)], [], [(140, 999), (141, 999), (142, 999)], [(none, [])], 1, 22)
/-- LoadsAheadModel doesPlain -/
theorem qk_1040 (l : Launch) : ek_ok l tQ iQ kq_1040 := ek_good_ok (sp := sQ) (K := [kq_448, kq_430]) (SP := []) (HS := [((128, [some (.inr 86, none), some (.inl (0, 1), none), some (.inl ((-2147483648), 2147483647), none), some (.inl ((-2147483648), 2147483647), none), some (.inl (0, 4), none), none], [], [], []), [(0, (0, 0, 0), 0), (1, (1, 4, 0), 4), (0, (0, 0, 0), 0)])]) (N := 3) (fuel := 92) hIQ (List.forall_mem_cons.mpr ⟨qk_448 l, List.forall_mem_cons.mpr ⟨qk_430 l, fun _ h => absurd h List.not_mem_nil⟩⟩) (by decide +kernel)
def kq_1041 : ek := (220, [.inr 86, .inl (0, 3)], [], [(140, 999), (141, 999), (142, 999)], [(none, [])], 1, 22)
/-- LoadsAheadModel doesPlain -/
theorem qk_1041 (l : Launch) : ek_ok l tQ iQ kq_1041 := ek_good_ok (sp := sQ) (K := [kq_448, kq_430]) (SP := []) (HS := [((128, [some (.inr 86, none), some (.inl (0, 3), none), some (.inl ((-2147483648), 2147483647), none), some (.inl ((-2147483648), 2147483647), none), some (.inl (0, 4), none), none], [], [], []), [(0, (0, 0, 0), 0), (1, (1, 4, 0), 4), (0, (0, 0, 0), 0)])]) (N := 3) (fuel := 92) hIQ (List.forall_mem_cons.mpr ⟨qk_448 l, List.forall_mem_cons.mpr ⟨qk_430 l, fun _ h => absurd h List.not_mem_nil⟩⟩) (by decide +kernel)
def kq_1042 : ek := (220, [.inr 86, .inl (0, 7)], [], [(140, 999), (141, 999), (142, 999)], [(none, [])], 1, 22)
/-- LoadsAheadModel doesPlain -/
theorem qk_1042 (l : Launch) : ek_ok l tQ iQ kq_1042 := ek_good_ok (sp := sQ) (K := [kq_448, kq_430]) (SP := []) (HS := [((128, [some (.inr 86, none), some (.inl (0, 7), none), some (.inl ((-2147483648), 2147483647), none), some (.inl ((-2147483648), 2147483647), none), some (.inl (0, 4), none), none], [], [], []), [(0, (0, 0, 0), 0), (1, (1, 4, 0), 4), (0, (0, 0, 0), 0)])]) (N := 3) (fuel := 92) hIQ (List.forall_mem_cons.mpr ⟨qk_448 l, List.forall_mem_cons.mpr ⟨qk_430 l, fun _ h => absurd h List.not_mem_nil⟩⟩) (by decide +kernel)
def kq_1043 : ek := (220, [.inr 86, .inl (0, 15)], [], [(140, 999), (141, 999), (142, 999)], [(none, [])], 1, 22)
/-- LoadsAheadModel doesPlain -/
theorem qk_1043 (l : Launch) : ek_ok l tQ iQ kq_1043 := ek_good_ok (sp := sQ) (K := [kq_448, kq_430]) (SP := []) (HS := [((128, [some (.inr 86, none), some (.inl (0, 15), none), some (.inl ((-2147483648), 2147483647), none), some (.inl ((-2147483648), 2147483647), none), some (.inl (0, 4), none), none], [], [], []), [(0, (0, 0, 0), 0), (1, (1, 4, 0), 4), (0, (0, 0, 0), 0)])]) (N := 3) (fuel := 92) hIQ (List.forall_mem_cons.mpr ⟨qk_448 l, List.forall_mem_cons.mpr ⟨qk_430 l, fun _ h => absurd h List.not_mem_nil⟩⟩) (by decide +kernel)
def kq_1044 : ek := (218, [.inr 86, .inl (0, 7)], [], [(140, 999), (141, 999), (142, 999)], [(some (.inl ((-2147483648), 2147483647)), [])], 3, 68)
/-- LoadsAheadModel plain -/
theorem qk_1044 (l : Launch) : ek_ok l tQ iQ kq_1044 := ek_good_ok (sp := sQ) (K := [kq_1037, kq_5]) (SP := [(8, [(2, [(-1), 7])])]) (HS := []) (N := 0) (fuel := 34) hIQ (List.forall_mem_cons.mpr ⟨qk_1037 l, List.forall_mem_cons.mpr ⟨qk_5 l, fun _ h => absurd h List.not_mem_nil⟩⟩) (by decide +kernel)
def kq_1045 : ek := (218, [.inr 86, .inl (8, 99)], [], [(140, 999), (141, 999), (142, 999)], [(some (.inl ((-100000), (-100000))), [])], 3, 68)
/-- LoadsAheadModel plain -/
theorem qk_1045 (l : Launch) : ek_ok l tQ iQ kq_1045 := ek_good_ok (sp := sQ) (K := [kq_1037, kq_1017, kq_1016]) (SP := [(8, [(2, [(-1), 7])]), (29, [(2, [99, 163])])]) (HS := []) (N := 0) (fuel := 36) hIQ (List.forall_mem_cons.mpr ⟨qk_1037 l, List.forall_mem_cons.mpr ⟨qk_1017 l, List.forall_mem_cons.mpr ⟨qk_1016 l, fun _ h => absurd h List.not_mem_nil⟩⟩⟩) (by decide +kernel)
def kq_1046 : ek := (218, [.inr 86, .inl (100, 163)], [], [(140, 999), (141, 999), (142, 999)], [(some (.inl ((-2147483648), 2147483647)), [])], 3, 68)
/-- LoadsAheadModel plain -/
theorem qk_1046 (l : Launch) : ek_ok l tQ iQ kq_1046 := ek_good_ok (sp := sQ) (K := [kq_1037, kq_946, kq_1019]) (SP := [(8, [(2, [(-1), 7])]), (29, [(2, [99, 163])])]) (HS := []) (N := 0) (fuel := 48) hIQ (List.forall_mem_cons.mpr ⟨qk_1037 l, List.forall_mem_cons.mpr ⟨qk_946 l, List.forall_mem_cons.mpr ⟨qk_1019 l, fun _ h => absurd h List.not_mem_nil⟩⟩⟩) (by decide +kernel)
def kq_1047 : ek := (218, [.inr 86, .inl (164, 2147483647)], [], [(140, 999), (141, 999), (142, 999)], [(some (.inl ((-100000), (-100000))), [])], 3, 68)
/-- LoadsAheadModel plain -/
theorem qk_1047 (l : Launch) : ek_ok l tQ iQ kq_1047 := ek_good_ok (sp := sQ) (K := [kq_1037, kq_950, kq_1021]) (SP := [(8, [(2, [(-1), 7])]), (29, [(2, [99, 163])])]) (HS := []) (N := 0) (fuel := 36) hIQ (List.forall_mem_cons.mpr ⟨qk_1037 l, List.forall_mem_cons.mpr ⟨qk_950 l, List.forall_mem_cons.mpr ⟨qk_1021 l, fun _ h => absurd h List.not_mem_nil⟩⟩⟩) (by decide +kernel)
def kq_1048 : ek := (114, [.inr 2, .inl ((-2147483648), 0)], [], [], [(some (.inl ((-1), (-1))), [])], 1, 21)
/-- LoadsAhead unlike -/
theorem qk_1048 (l : Launch) : ek_ok l tQ iQ kq_1048 := ek_good_ok (sp := sQ) (K := [kq_241]) (SP := [(2, [(0, [0, 4])])]) (HS := []) (N := 0) (fuel := 20) hIQ (List.forall_mem_cons.mpr ⟨qk_241 l, fun _ h => absurd h List.not_mem_nil⟩) (by decide +kernel)
def kq_1049 : ek := (115, [.inr 31, .inr 69], [], [], [(some (.inl ((-2147483648), 2147483647)), []), (some (.inl (0, 2147483647)), [])], 0, 0)
/-- LoadsAhead differing -/
theorem qk_1049 (l : Launch) : ek_ok l tQ iQ kq_1049 := ek_good_ok (sp := sQ) (K := []) (SP := []) (HS := [((4, [some (.inr 31, none), some (.inr 69, none), some (.inl ((-2147483648), 2147483647), none), some (.inl (0, 8), none)], [], [], []), [(0, (0, 0, 0), 0), (1, (1, 3, 0), 8), (0, (0, 0, 0), 0)])]) (N := 3) (fuel := 46) hIQ (fun _ h => absurd h List.not_mem_nil) (by decide +kernel)
def kq_1050 : ek := (115, [.inr 32, .inr 70], [], [], [(some (.inl ((-2147483648), 2147483647)), []), (some (.inl (0, 2147483647)), [])], 0, 0)
/-- LoadsAhead differing -/
theorem qk_1050 (l : Launch) : ek_ok l tQ iQ kq_1050 := ek_good_ok (sp := sQ) (K := []) (SP := []) (HS := [((4, [some (.inr 32, none), some (.inr 70, none), some (.inl ((-2147483648), 2147483647), none), some (.inl (0, 64), none)], [], [], []), [(0, (0, 0, 0), 0), (1, (1, 3, 0), 64), (0, (0, 0, 0), 0)])]) (N := 3) (fuel := 46) hIQ (fun _ h => absurd h List.not_mem_nil) (by decide +kernel)
def kq_1052 : ek := (114, [.inr 2, .inl (5, 2147483647)], [], [], [(some (.inl ((-1), (-1))), [])], 1, 21)
/-- LoadsAhead unlike -/
theorem qk_1052 (l : Launch) : ek_ok l tQ iQ kq_1052 := ek_good_ok (sp := sQ) (K := [kq_420]) (SP := [(2, [(0, [0, 4])])]) (HS := []) (N := 0) (fuel := 20) hIQ (List.forall_mem_cons.mpr ⟨qk_420 l, fun _ h => absurd h List.not_mem_nil⟩) (by decide +kernel)
def kq_1053 : ek := (221, [.inr 86, .inl ((-2147483648), 0)], [], [], [(some (.inl ((-1), (-1))), [])], 2, 43)
/-- LoadsAheadModel unlike -/
theorem qk_1053 (l : Launch) : ek_ok l tQ iQ kq_1053 := ek_good_ok (sp := sQ) (K := [kq_423]) (SP := [(2, [(0, [0, 4])])]) (HS := []) (N := 0) (fuel := 20) hIQ (List.forall_mem_cons.mpr ⟨qk_423 l, fun _ h => absurd h List.not_mem_nil⟩) (by decide +kernel)
def kq_1055 : ek := (221, [.inr 86, .inl (5, 2147483647)], [], [], [(some (.inl ((-1), (-1))), [])], 2, 43)
/-- LoadsAheadModel unlike -/
theorem qk_1055 (l : Launch) : ek_ok l tQ iQ kq_1055 := ek_good_ok (sp := sQ) (K := [kq_874]) (SP := [(2, [(0, [0, 4])])]) (HS := []) (N := 0) (fuel := 20) hIQ (List.forall_mem_cons.mpr ⟨qk_874 l, fun _ h => absurd h List.not_mem_nil⟩) (by decide +kernel)
def kq_1056 : ek := (116, [.inr 2, .inl ((-2147483648), (-1))], [], [], [(some (.inl ((-1), (-1))), [])], 0, 0)
/-- LoadsAhead fastest -/
theorem qk_1056 (l : Launch) : ek_ok l tQ iQ kq_1056 := ek_good_ok (sp := sQ) (K := []) (SP := []) (HS := []) (N := 0) (fuel := 16) hIQ (fun _ h => absurd h List.not_mem_nil) (by decide +kernel)
def kq_1062 : ek := (116, [.inr 2, .inl (2, 2147483647)], [], [], [(some (.inl ((-1), (-1))), [])], 0, 0)
/-- LoadsAhead fastest -/
theorem qk_1062 (l : Launch) : ek_ok l tQ iQ kq_1062 := ek_good_ok (sp := sQ) (K := []) (SP := []) (HS := []) (N := 0) (fuel := 22) hIQ (fun _ h => absurd h List.not_mem_nil) (by decide +kernel)
def kq_1063 : ek := (137, [.inl ((-2147483648), (-1)), .inl (0, 0), .inl (1, 1)], [], [], [(some (.inl (0, 0)), [])], 0, 0)
/-- LoadsAheadModel in -/
theorem qk_1063 (l : Launch) : ek_ok l tQ iQ kq_1063 := ek_good_ok (sp := sQ) (K := []) (SP := []) (HS := []) (N := 0) (fuel := 18) hIQ (fun _ h => absurd h List.not_mem_nil) (by decide +kernel)
def kq_1064 : ek := (215, [.inr 86, .inl ((-2147483648), (-1))], [], [], [(some (.inl ((-1), (-1))), [])], 1, 22)
/-- LoadsAheadModel fastest -/
theorem qk_1064 (l : Launch) : ek_ok l tQ iQ kq_1064 := ek_good_ok (sp := sQ) (K := [kq_1063]) (SP := [(3, [(2, [(-1), 1])])]) (HS := []) (N := 0) (fuel := 22) hIQ (List.forall_mem_cons.mpr ⟨qk_1063 l, fun _ h => absurd h List.not_mem_nil⟩) (by decide +kernel)
def kq_1065 : ek := (137, [.inl (0, 1), .inl (0, 0), .inl (1, 1)], [], [], [(some (.inl (1, 1)), [])], 0, 0)
/-- LoadsAheadModel in -/
theorem qk_1065 (l : Launch) : ek_ok l tQ iQ kq_1065 := ek_good_ok (sp := sQ) (K := []) (SP := []) (HS := []) (N := 0) (fuel := 26) hIQ (fun _ h => absurd h List.not_mem_nil) (by decide +kernel)
def kq_1082 : ek := (137, [.inl (2, 2147483647), .inl (0, 0), .inl (1, 1)], [], [], [(some (.inl (0, 0)), [])], 0, 0)
/-- LoadsAheadModel in -/
theorem qk_1082 (l : Launch) : ek_ok l tQ iQ kq_1082 := ek_good_ok (sp := sQ) (K := []) (SP := []) (HS := []) (N := 0) (fuel := 24) hIQ (fun _ h => absurd h List.not_mem_nil) (by decide +kernel)
def kq_1083 : ek := (215, [.inr 86, .inl (2, 2147483647)], [], [], [(some (.inl ((-1), (-1))), [])], 1, 22)
/-- LoadsAheadModel fastest -/
theorem qk_1083 (l : Launch) : ek_ok l tQ iQ kq_1083 := ek_good_ok (sp := sQ) (K := [kq_1082]) (SP := [(3, [(2, [(-1), 1])])]) (HS := []) (N := 0) (fuel := 22) hIQ (List.forall_mem_cons.mpr ⟨qk_1082 l, fun _ h => absurd h List.not_mem_nil⟩) (by decide +kernel)
def kq_1084 : ek := (117, [.inr 2, .inl ((-2147483648), 0), .inl ((-2147483648), 2147483647)], [], [], [(some (.inl ((-1), (-1))), [])], 1, 21)
/-- LoadsAhead cautious -/
theorem qk_1084 (l : Launch) : ek_ok l tQ iQ kq_1084 := ek_good_ok (sp := sQ) (K := [kq_241]) (SP := [(2, [(0, [0, 4])])]) (HS := []) (N := 0) (fuel := 20) hIQ (List.forall_mem_cons.mpr ⟨qk_241 l, fun _ h => absurd h List.not_mem_nil⟩) (by decide +kernel)
def kq_1085 : ek := (83, [.inr 5, .inl (0, 19), .inl (1, 1)], [], [], [(some (.inl (1, 1)), []), (some (.inl (0, 0)), [])], 0, 0)
/-- LoadsAhead.Machine mustWait -/
theorem qk_1085 (l : Launch) : ek_ok l tQ iQ kq_1085 := ek_good_ok (sp := sQ) (K := []) (SP := []) (HS := [((51, [some (.inr 5, none), some (.inl (0, 19), none), some (.inl (1, 1), none), some (.inl (0, 1), none), some (.inl ((-1), 15), none), some (.inl ((-1), 18), none)], [], [], []), [(0, (0, 0, 0), 0), (2, (1, 5, 0), (-1)), (0, (0, 0, 0), 0)])]) (N := 3) (fuel := 66) hIQ (fun _ h => absurd h List.not_mem_nil) (by decide +kernel)
