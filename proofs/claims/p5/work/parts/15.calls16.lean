def kq_1147 : ek := (223, [.inr 86, .inl (0, 7), .inl (0, 7)], [], [], [(some (.inl (1, 1)), []), (some (.inl (0, 0)), [])], 0, 0)
/-- LoadsAheadModel haveByte -/
theorem qk_1147 (l : Launch) : ek_ok l tQ iQ kq_1147 := ek_good_ok (sp := sQ) (K := []) (SP := []) (HS := [((2, [some (.inr 86, none), some (.inl (0, 7), none), some (.inl (0, 7), none), some (.inl (0, 4), none)], [], [], []), [(0, (0, 0, 0), 0), (1, (1, 3, 0), 4), (0, (0, 0, 0), 0)])]) (N := 3) (fuel := 62) hIQ (fun _ h => absurd h List.not_mem_nil) (by decide +kernel)
def kq_1148 : ek := (223, [.inr 86, .inl (0, 15), .inl (0, 7)], [], [], [(some (.inl (1, 1)), []), (some (.inl (0, 0)), [])], 0, 0)
/-- LoadsAheadModel haveByte -/
theorem qk_1148 (l : Launch) : ek_ok l tQ iQ kq_1148 := ek_good_ok (sp := sQ) (K := []) (SP := []) (HS := [((2, [some (.inr 86, none), some (.inl (0, 15), none), some (.inl (0, 7), none), some (.inl (0, 4), none)], [], [], []), [(0, (0, 0, 0), 0), (1, (1, 3, 0), 4), (0, (0, 0, 0), 0)])]) (N := 3) (fuel := 62) hIQ (fun _ h => absurd h List.not_mem_nil) (by decide +kernel)
def kq_1149 : ek := (223, [.inr 86, .inl (0, 15), .inl (0, 15)], [], [], [(some (.inl (1, 1)), []), (some (.inl (0, 0)), [])], 0, 0)
/-- LoadsAheadModel haveByte -/
theorem qk_1149 (l : Launch) : ek_ok l tQ iQ kq_1149 := ek_good_ok (sp := sQ) (K := []) (SP := []) (HS := [((2, [some (.inr 86, none), some (.inl (0, 15), none), some (.inl (0, 15), none), some (.inl (0, 4), none)], [], [], []), [(0, (0, 0, 0), 0), (1, (1, 3, 0), 4), (0, (0, 0, 0), 0)])]) (N := 3) (fuel := 62) hIQ (fun _ h => absurd h List.not_mem_nil) (by decide +kernel)
def kq_1150 : ek := (223, [.inr 86, .inl (0, 19), .inl (0, 15)], [], [], [(some (.inl (1, 1)), []), (some (.inl (0, 0)), [])], 0, 0)
/-- LoadsAheadModel haveByte -/
theorem qk_1150 (l : Launch) : ek_ok l tQ iQ kq_1150 := ek_good_ok (sp := sQ) (K := []) (SP := []) (HS := [((2, [some (.inr 86, none), some (.inl (0, 19), none), some (.inl (0, 15), none), some (.inl (0, 4), none)], [], [], []), [(0, (0, 0, 0), 0), (1, (1, 3, 0), 4), (0, (0, 0, 0), 0)])]) (N := 3) (fuel := 62) hIQ (fun _ h => absurd h List.not_mem_nil) (by decide +kernel)
def kq_1151 : ek := (123, [.inr 2, .inl ((-2147483648), (-1)), .inl ((-2147483648), 2147483647)], [], [], [(some (.inl ((-1), (-1))), [])], 0, 0)
/-- LoadsAhead watch -/
theorem qk_1151 (l : Launch) : ek_ok l tQ iQ kq_1151 := ek_good_ok (sp := sQ) (K := []) (SP := []) (HS := []) (N := 0) (fuel := 16) hIQ (fun _ h => absurd h List.not_mem_nil) (by decide +kernel)
def kq_1152 : ek := (123, [.inr 2, .inl (2, 2147483647), .inl ((-2147483648), 2147483647)], [], [], [(some (.inl ((-1), (-1))), [])], 0, 0)
/-- LoadsAhead watch -/
theorem qk_1152 (l : Launch) : ek_ok l tQ iQ kq_1152 := ek_good_ok (sp := sQ) (K := []) (SP := []) (HS := []) (N := 0) (fuel := 22) hIQ (fun _ h => absurd h List.not_mem_nil) (by decide +kernel)
def kq_1153 : ek := (123, [.inr 2, .inl (0, 1), .inl ((-2147483648), (-1))], [], [], [(some (.inl ((-3), (-1))), [])], 1, 21)
/-- LoadsAhead watch -/
theorem qk_1153 (l : Launch) : ek_ok l tQ iQ kq_1153 := ek_good_ok (sp := sQ) (K := [kq_979]) (SP := [(30, [(0, [(-1), 19])])]) (HS := []) (N := 0) (fuel := 44) hIQ (List.forall_mem_cons.mpr ⟨qk_979 l, fun _ h => absurd h List.not_mem_nil⟩) (by decide +kernel)
def kq_1154 : ek := (124, [.inr 84, .inl (0, 0), .inl (0, 19)], [], [(83, 999), (150, 999)], [(some (.inl (1, 8)), [])], 0, 0)
/-- LoadsAhead.Rows put -/
theorem qk_1154 (l : Launch) : ek_ok l tQ iQ kq_1154 := ek_good_ok (sp := sQ) (K := []) (SP := [(16, [(0, [0])])]) (HS := []) (N := 0) (fuel := 66) hIQ (fun _ h => absurd h List.not_mem_nil) (by decide +kernel)
def kq_1155 : ek := (124, [.inr 84, .inl (1, 1), .inl (0, 19)], [], [(83, 999), (151, 999)], [(some (.inl (1, 8)), [])], 0, 0)
/-- LoadsAhead.Rows put -/
theorem qk_1155 (l : Launch) : ek_ok l tQ iQ kq_1155 := ek_good_ok (sp := sQ) (K := []) (SP := [(16, [(0, [0])])]) (HS := []) (N := 0) (fuel := 66) hIQ (fun _ h => absurd h List.not_mem_nil) (by decide +kernel)
def kq_1156 : ek := (123, [.inr 2, .inl (0, 1), .inl (0, 2147483647)], [], [(82, 2), (83, 999), (150, 999), (151, 999)], [(some (.inl ((-7), (-1))), []), (some (.inl (1, 8)), [((2, 4, 11), (1, 20), none)])], 1, 22)
/-- LoadsAhead watch -/
theorem qk_1156 (l : Launch) : ek_ok l tQ iQ kq_1156 := ek_good_ok (sp := sQ) (K := [kq_1155, kq_1154, kq_981, kq_982]) (SP := [(30, [(0, [(-1), 19])])]) (HS := []) (N := 0) (fuel := 86) hIQ (List.forall_mem_cons.mpr ⟨qk_1155 l, List.forall_mem_cons.mpr ⟨qk_1154 l, List.forall_mem_cons.mpr ⟨qk_981 l, List.forall_mem_cons.mpr ⟨qk_982 l, fun _ h => absurd h List.not_mem_nil⟩⟩⟩⟩) (by decide +kernel)
def kq_1157 : ek := (230, [.inr 86, .inl ((-2147483648), (-1)), .inl ((-2147483648), 2147483647)], [], [], [(some (.inl ((-1), (-1))), [])], 1, 22)
/-- LoadsAheadModel watch -/
theorem qk_1157 (l : Launch) : ek_ok l tQ iQ kq_1157 := ek_good_ok (sp := sQ) (K := [kq_1063]) (SP := [(3, [(2, [(-1), 1])])]) (HS := []) (N := 0) (fuel := 22) hIQ (List.forall_mem_cons.mpr ⟨qk_1063 l, fun _ h => absurd h List.not_mem_nil⟩) (by decide +kernel)
def kq_1158 : ek := (230, [.inr 86, .inl (2, 2147483647), .inl ((-2147483648), 2147483647)], [], [], [(some (.inl ((-1), (-1))), [])], 1, 22)
/-- LoadsAheadModel watch -/
theorem qk_1158 (l : Launch) : ek_ok l tQ iQ kq_1158 := ek_good_ok (sp := sQ) (K := [kq_1082]) (SP := [(3, [(2, [(-1), 1])])]) (HS := []) (N := 0) (fuel := 22) hIQ (List.forall_mem_cons.mpr ⟨qk_1082 l, fun _ h => absurd h List.not_mem_nil⟩) (by decide +kernel)
def kq_1159 : ek := (230, [.inr 86, .inl (0, 1), .inl ((-2147483648), (-1))], [], [], [(some (.inl ((-1), (-1))), [])], 2, 43)
/-- LoadsAheadModel watch -/
theorem qk_1159 (l : Launch) : ek_ok l tQ iQ kq_1159 := ek_good_ok (sp := sQ) (K := [kq_1065, kq_989]) (SP := [(3, [(2, [(-1), 1])]), (11, [(0, [(-1), 19])])]) (HS := []) (N := 0) (fuel := 30) hIQ (List.forall_mem_cons.mpr ⟨qk_1065 l, List.forall_mem_cons.mpr ⟨qk_989 l, fun _ h => absurd h List.not_mem_nil⟩⟩) (by decide +kernel)
def kq_1160 : ek := (230, [.inr 86, .inl (0, 1), .inl (0, 2147483647)], [], [(84, 4), (144, 999), (145, 999)], [(some (.inl ((-7), (-1))), []), (some (.inl (1, 8)), [])], 2, 43)
/-- LoadsAheadModel watch -/
theorem qk_1160 (l : Launch) : ek_ok l tQ iQ kq_1160 := ek_good_ok (sp := sQ) (K := [kq_1065, kq_992, kq_460, kq_994]) (SP := [(3, [(2, [(-1), 1])]), (11, [(0, [(-1), 19])])]) (HS := []) (N := 0) (fuel := 98) hIQ (List.forall_mem_cons.mpr ⟨qk_1065 l, List.forall_mem_cons.mpr ⟨qk_992 l, List.forall_mem_cons.mpr ⟨qk_460 l, List.forall_mem_cons.mpr ⟨qk_994 l, fun _ h => absurd h List.not_mem_nil⟩⟩⟩⟩) (by decide +kernel)
def kq_1161 : ek := (125, [.inr 2, .inl ((-2147483648), (-1)), .inl ((-2147483648), 2147483647), .inl ((-2147483648), 2147483647)], [], [], [(some (.inl ((-100000), (-100000))), [])], 0, 0)
/-- LoadsAhead watched -/
theorem qk_1161 (l : Launch) : ek_ok l tQ iQ kq_1161 := ek_good_ok (sp := sQ) (K := []) (SP := []) (HS := []) (N := 0) (fuel := 16) hIQ (fun _ h => absurd h List.not_mem_nil) (by decide +kernel)
def kq_1162 : ek := (125, [.inr 2, .inl (2, 2147483647), .inl ((-2147483648), 2147483647), .inl ((-2147483648), 2147483647)], [], [], [(some (.inl ((-100000), (-100000))), [])], 0, 0)
/-- LoadsAhead watched -/
theorem qk_1162 (l : Launch) : ek_ok l tQ iQ kq_1162 := ek_good_ok (sp := sQ) (K := []) (SP := []) (HS := []) (N := 0) (fuel := 22) hIQ (fun _ h => absurd h List.not_mem_nil) (by decide +kernel)
def kq_1163 : ek := (125, [.inr 2, .inl (0, 1), .inl ((-2147483648), (-1)), .inl ((-2147483648), 2147483647)], [], [], [(some (.inl ((-100000), (-100000))), [])], 0, 0)
/-- LoadsAhead watched -/
theorem qk_1163 (l : Launch) : ek_ok l tQ iQ kq_1163 := ek_good_ok (sp := sQ) (K := []) (SP := []) (HS := []) (N := 0) (fuel := 26) hIQ (fun _ h => absurd h List.not_mem_nil) (by decide +kernel)
def kq_1164 : ek := (125, [.inr 2, .inl (0, 1), .inl (0, 2147483647), .inl ((-2147483648), (-1))], [], [], [(some (.inl ((-100000), (-100000))), [])], 0, 0)
/-- LoadsAhead watched -/
theorem qk_1164 (l : Launch) : ek_ok l tQ iQ kq_1164 := ek_good_ok (sp := sQ) (K := []) (SP := []) (HS := []) (N := 0) (fuel := 30) hIQ (fun _ h => absurd h List.not_mem_nil) (by decide +kernel)
def kq_1165 : ek := (103, [.inr 2, .inl (0, 19), .inl (0, 7)], [], [], [(some (.inl ((-100000), (-2))), []), (some (.inl (0, 15)), [((2, 4, 11), (1, 20), none)]), (some (.inl ((-2147483648), 2147483647)), [((2, 0, 8), (1, 1), none), ((2, 4, 11), (1, 20), none)])], 1, 21)
/-- LoadsAhead opIs -/
theorem qk_1165 (l : Launch) : ek_ok l tQ iQ kq_1165 := ek_good_ok (sp := sQ) (K := [kq_985, kq_981, kq_986]) (SP := [(2, [(0, [(-1), 19])])]) (HS := []) (N := 0) (fuel := 78) hIQ (List.forall_mem_cons.mpr ⟨qk_985 l, List.forall_mem_cons.mpr ⟨qk_981 l, List.forall_mem_cons.mpr ⟨qk_986 l, fun _ h => absurd h List.not_mem_nil⟩⟩⟩) (by decide +kernel)
def kq_1166 : ek := (125, [.inr 2, .inl (0, 1), .inl (0, 2147483647), .inl (0, 6)], [], [], [(some (.inl (0, 19)), []), (some (.inl ((-2147483648), 2147483647)), [((2, 0, 8), (1, 1), none), ((2, 4, 11), (1, 20), none)]), (some (.inl ((-100000), (-2))), [])], 2, 43)
/-- LoadsAhead watched -/
theorem qk_1166 (l : Launch) : ek_ok l tQ iQ kq_1166 := ek_good_ok (sp := sQ) (K := [kq_1165]) (SP := [(56, [(0, [0])])]) (HS := []) (N := 0) (fuel := 84) hIQ (List.forall_mem_cons.mpr ⟨qk_1165 l, fun _ h => absurd h List.not_mem_nil⟩) (by decide +kernel)
def kq_1167 : ek := (125, [.inr 2, .inl (0, 1), .inl (0, 2147483647), .inl (7, 2147483647)], [], [], [(some (.inl ((-100000), (-100000))), [])], 0, 0)
/-- LoadsAhead watched -/
theorem qk_1167 (l : Launch) : ek_ok l tQ iQ kq_1167 := ek_good_ok (sp := sQ) (K := []) (SP := []) (HS := []) (N := 0) (fuel := 36) hIQ (fun _ h => absurd h List.not_mem_nil) (by decide +kernel)
def kq_1168 : ek := (231, [.inr 86, .inl ((-2147483648), (-1)), .inl ((-2147483648), 2147483647), .inl ((-2147483648), 2147483647)], [], [], [(some (.inl ((-100000), (-100000))), [])], 1, 22)
/-- LoadsAheadModel watched -/
theorem qk_1168 (l : Launch) : ek_ok l tQ iQ kq_1168 := ek_good_ok (sp := sQ) (K := [kq_1063]) (SP := [(3, [(2, [(-1), 1])])]) (HS := []) (N := 0) (fuel := 22) hIQ (List.forall_mem_cons.mpr ⟨qk_1063 l, fun _ h => absurd h List.not_mem_nil⟩) (by decide +kernel)
def kq_1169 : ek := (231, [.inr 86, .inl (2, 2147483647), .inl ((-2147483648), 2147483647), .inl ((-2147483648), 2147483647)], [], [], [(some (.inl ((-100000), (-100000))), [])], 1, 22)
/-- LoadsAheadModel watched -/
theorem qk_1169 (l : Launch) : ek_ok l tQ iQ kq_1169 := ek_good_ok (sp := sQ) (K := [kq_1082]) (SP := [(3, [(2, [(-1), 1])])]) (HS := []) (N := 0) (fuel := 22) hIQ (List.forall_mem_cons.mpr ⟨qk_1082 l, fun _ h => absurd h List.not_mem_nil⟩) (by decide +kernel)
def kq_1170 : ek := (231, [.inr 86, .inl (0, 1), .inl ((-2147483648), (-1)), .inl ((-2147483648), 2147483647)], [], [], [(some (.inl ((-100000), (-100000))), [])], 1, 22)
/-- LoadsAheadModel watched -/
theorem qk_1170 (l : Launch) : ek_ok l tQ iQ kq_1170 := ek_good_ok (sp := sQ) (K := [kq_1065]) (SP := [(3, [(2, [(-1), 1])])]) (HS := []) (N := 0) (fuel := 26) hIQ (List.forall_mem_cons.mpr ⟨qk_1065 l, fun _ h => absurd h List.not_mem_nil⟩) (by decide +kernel)
def kq_1171 : ek := (137, [.inl ((-2147483648), (-1)), .inl (0, 0), .inl (6, 6)], [], [], [(some (.inl (0, 0)), [])], 0, 0)
/-- LoadsAheadModel in -/
theorem qk_1171 (l : Launch) : ek_ok l tQ iQ kq_1171 := ek_good_ok (sp := sQ) (K := []) (SP := []) (HS := []) (N := 0) (fuel := 18) hIQ (fun _ h => absurd h List.not_mem_nil) (by decide +kernel)
def kq_1172 : ek := (231, [.inr 86, .inl (0, 1), .inl (0, 2147483647), .inl ((-2147483648), (-1))], [], [], [(some (.inl ((-100000), (-100000))), [])], 1, 22)
/-- LoadsAheadModel watched -/
theorem qk_1172 (l : Launch) : ek_ok l tQ iQ kq_1172 := ek_good_ok (sp := sQ) (K := [kq_1065, kq_1171]) (SP := [(3, [(2, [(-1), 1])]), (17, [(2, [(-1), 6])])]) (HS := []) (N := 0) (fuel := 36) hIQ (List.forall_mem_cons.mpr ⟨qk_1065 l, List.forall_mem_cons.mpr ⟨qk_1171 l, fun _ h => absurd h List.not_mem_nil⟩⟩) (by decide +kernel)
def kq_1173 : ek := (137, [.inl (0, 6), .inl (0, 0), .inl (6, 6)], [], [], [(some (.inl (1, 1)), [])], 0, 0)
/-- LoadsAheadModel in -/
theorem qk_1173 (l : Launch) : ek_ok l tQ iQ kq_1173 := ek_good_ok (sp := sQ) (K := []) (SP := []) (HS := []) (N := 0) (fuel := 26) hIQ (fun _ h => absurd h List.not_mem_nil) (by decide +kernel)
def kq_1174 : ek := (231, [.inr 86, .inl (0, 1), .inl (0, 2147483647), .inl (0, 6)], [], [], [(some (.inl ((-4), (-2))), []), (some (.inl (0, 19)), []), (some (.inl ((-2147483648), 2147483647)), [((2, 84, 75), (1, 1), none)])], 1, 22)
/-- LoadsAheadModel watched -/
theorem qk_1174 (l : Launch) : ek_ok l tQ iQ kq_1174 := ek_good_ok (sp := sQ) (K := [kq_1065, kq_1173, kq_995]) (SP := [(3, [(2, [(-1), 1])]), (17, [(2, [(-1), 6])])]) (HS := []) (N := 0) (fuel := 78) hIQ (List.forall_mem_cons.mpr ⟨qk_1065 l, List.forall_mem_cons.mpr ⟨qk_1173 l, List.forall_mem_cons.mpr ⟨qk_995 l, fun _ h => absurd h List.not_mem_nil⟩⟩⟩) (by decide +kernel)
def kq_1175 : ek := (137, [.inl (7, 2147483647), .inl (0, 0), .inl (6, 6)], [], [], [(some (.inl (0, 0)), [])], 0, 0)
/-- LoadsAheadModel in -/
theorem qk_1175 (l : Launch) : ek_ok l tQ iQ kq_1175 := ek_good_ok (sp := sQ) (K := []) (SP := []) (HS := []) (N := 0) (fuel := 24) hIQ (fun _ h => absurd h List.not_mem_nil) (by decide +kernel)
def kq_1176 : ek := (231, [.inr 86, .inl (0, 1), .inl (0, 2147483647), .inl (7, 2147483647)], [], [], [(some (.inl ((-100000), (-100000))), [])], 1, 22)
/-- LoadsAheadModel watched -/
theorem qk_1176 (l : Launch) : ek_ok l tQ iQ kq_1176 := ek_good_ok (sp := sQ) (K := [kq_1065, kq_1175]) (SP := [(3, [(2, [(-1), 1])]), (17, [(2, [(-1), 6])])]) (HS := []) (N := 0) (fuel := 36) hIQ (List.forall_mem_cons.mpr ⟨qk_1065 l, List.forall_mem_cons.mpr ⟨qk_1175 l, fun _ h => absurd h List.not_mem_nil⟩⟩) (by decide +kernel)
def kq_1177 : ek := (127, [.inr 26], [], [], [(some (.inl ((-2147483648), 2147483647)), []), (some (.inl (0, 2147483647)), [])], 0, 0)
/-- LoadsAhead.State withSet -/
theorem qk_1177 (l : Launch) : ek_ok l tQ iQ kq_1177 := ek_good_ok (sp := sQ) (K := []) (SP := []) (HS := [((4, [some (.inr 26, none), some (.inl ((-2147483648), 2147483647), none), some (.inl (0, 20), none)], [], [], []), [(0, (0, 0, 0), 0), (1, (1, 2, 0), 20), (0, (0, 0, 0), 0)])]) (N := 3) (fuel := 34) hIQ (fun _ h => absurd h List.not_mem_nil) (by decide +kernel)
def kq_1178 : ek := (126, [.inr 2], [], [(27, 999)], [(some (.inl (0, 2147483647)), []), (some (.inl ((-2147483648), 2147483647)), [])], 2, 43)
/-- LoadsAhead forget -/
theorem qk_1178 (l : Launch) : ek_ok l tQ iQ kq_1178 := ek_good_ok (sp := sQ) (K := [kq_1177, kq_141]) (SP := []) (HS := []) (N := 0) (fuel := 30) hIQ (List.forall_mem_cons.mpr ⟨qk_1177 l, List.forall_mem_cons.mpr ⟨qk_141 l, fun _ h => absurd h List.not_mem_nil⟩⟩) (by decide +kernel)
def kq_1179 : ek := (233, [.inr 86], [], [], [(some (.inl ((-2147483648), 2147483647)), []), (some (.inl (0, 2147483647)), [])], 0, 0)
/-- LoadsAheadModel withSet -/
theorem qk_1179 (l : Launch) : ek_ok l tQ iQ kq_1179 := ek_good_ok (sp := sQ) (K := []) (SP := []) (HS := [((4, [some (.inr 86, none), some (.inl ((-2147483648), 2147483647), none), some (.inl (0, 20), none)], [], [], []), [(0, (0, 0, 0), 0), (1, (1, 2, 0), 20), (0, (0, 0, 0), 0)])]) (N := 3) (fuel := 42) hIQ (fun _ h => absurd h List.not_mem_nil) (by decide +kernel)
def kq_1180 : ek := (232, [.inr 86], [], [(87, 999)], [(some (.inl (0, 2147483647)), []), (some (.inl ((-2147483648), 2147483647)), [])], 1, 22)
/-- LoadsAheadModel forget -/
theorem qk_1180 (l : Launch) : ek_ok l tQ iQ kq_1180 := ek_good_ok (sp := sQ) (K := [kq_1179]) (SP := []) (HS := [((7, [some (.inr 86, none), some (.inl ((-2147483648), 2147483647), none), some (.inl (0, 20), none)], [], [], []), [(0, (0, 0, 0), 0), (1, (1, 2, 0), 20), (0, (0, 0, 0), 0)])]) (N := 3) (fuel := 32) hIQ (List.forall_mem_cons.mpr ⟨qk_1179 l, fun _ h => absurd h List.not_mem_nil⟩) (by decide +kernel)
def kq_1181 : ek := (128, [.inr 2, .inl ((-2147483648), (-1))], [], [], [(some (.inl (0, 0)), [])], 0, 0)
/-- LoadsAhead seed -/
theorem qk_1181 (l : Launch) : ek_ok l tQ iQ kq_1181 := ek_good_ok (sp := sQ) (K := []) (SP := []) (HS := []) (N := 0) (fuel := 16) hIQ (fun _ h => absurd h List.not_mem_nil) (by decide +kernel)
def kq_1182 : ek := (128, [.inr 2, .inl (0, 65535)], [], [(24, 5)], [(some (.inl (1, 1)), [])], 0, 0)
/-- LoadsAhead seed -/
theorem qk_1182 (l : Launch) : ek_ok l tQ iQ kq_1182 := ek_good_ok (sp := sQ) (K := []) (SP := []) (HS := []) (N := 0) (fuel := 32) hIQ (fun _ h => absurd h List.not_mem_nil) (by decide +kernel)
def kq_1183 : ek := (128, [.inr 2, .inl (65536, 2147483647)], [], [], [(some (.inl (0, 0)), [])], 0, 0)
/-- LoadsAhead seed -/
theorem qk_1183 (l : Launch) : ek_ok l tQ iQ kq_1183 := ek_good_ok (sp := sQ) (K := []) (SP := []) (HS := []) (N := 0) (fuel := 22) hIQ (fun _ h => absurd h List.not_mem_nil) (by decide +kernel)
def kq_1184 : ek := (137, [.inl ((-2147483648), (-1)), .inl (0, 0), .inl (65535, 65535)], [], [], [(some (.inl (0, 0)), [])], 0, 0)
/-- LoadsAheadModel in -/
theorem qk_1184 (l : Launch) : ek_ok l tQ iQ kq_1184 := ek_good_ok (sp := sQ) (K := []) (SP := []) (HS := []) (N := 0) (fuel := 18) hIQ (fun _ h => absurd h List.not_mem_nil) (by decide +kernel)
def kq_1185 : ek := (234, [.inr 86, .inl ((-2147483648), (-1))], [], [], [(some (.inl (0, 0)), [])], 1, 22)
/-- LoadsAheadModel seed -/
theorem qk_1185 (l : Launch) : ek_ok l tQ iQ kq_1185 := ek_good_ok (sp := sQ) (K := [kq_1184]) (SP := [(5, [(2, [(-1), 65535])])]) (HS := []) (N := 0) (fuel := 22) hIQ (List.forall_mem_cons.mpr ⟨qk_1184 l, fun _ h => absurd h List.not_mem_nil⟩) (by decide +kernel)
def kq_1186 : ek := (137, [.inl (0, 65535), .inl (0, 0), .inl (65535, 65535)], [], [], [(some (.inl (1, 1)), [])], 0, 0)
/-- LoadsAheadModel in -/
theorem qk_1186 (l : Launch) : ek_ok l tQ iQ kq_1186 := ek_good_ok (sp := sQ) (K := []) (SP := []) (HS := []) (N := 0) (fuel := 26) hIQ (fun _ h => absurd h List.not_mem_nil) (by decide +kernel)
def kq_1187 : ek := (234, [.inr 86, .inl (0, 65535)], [], [(84, 0)], [(some (.inl (1, 1)), [])], 1, 22)
/-- LoadsAheadModel seed -/
theorem qk_1187 (l : Launch) : ek_ok l tQ iQ kq_1187 := ek_good_ok (sp := sQ) (K := [kq_1186]) (SP := [(5, [(2, [(-1), 65535])])]) (HS := []) (N := 0) (fuel := 28) hIQ (List.forall_mem_cons.mpr ⟨qk_1186 l, fun _ h => absurd h List.not_mem_nil⟩) (by decide +kernel)
def kq_1188 : ek := (137, [.inl (65536, 2147483647), .inl (0, 0), .inl (65535, 65535)], [], [], [(some (.inl (0, 0)), [])], 0, 0)
/-- LoadsAheadModel in -/
theorem qk_1188 (l : Launch) : ek_ok l tQ iQ kq_1188 := ek_good_ok (sp := sQ) (K := []) (SP := []) (HS := []) (N := 0) (fuel := 24) hIQ (fun _ h => absurd h List.not_mem_nil) (by decide +kernel)
def kq_1189 : ek := (234, [.inr 86, .inl (65536, 2147483647)], [], [], [(some (.inl (0, 0)), [])], 1, 22)
/-- LoadsAheadModel seed -/
theorem qk_1189 (l : Launch) : ek_ok l tQ iQ kq_1189 := ek_good_ok (sp := sQ) (K := [kq_1188]) (SP := [(5, [(2, [(-1), 65535])])]) (HS := []) (N := 0) (fuel := 22) hIQ (List.forall_mem_cons.mpr ⟨qk_1188 l, fun _ h => absurd h List.not_mem_nil⟩) (by decide +kernel)
def kq_1190 : ek := (62, [.inr 80, .inr 26], [], [(78, 4), (78, 5), (79, 999), (80, 999)], [(none, [])], 1, 65)
/-- LoadsAhead.State copyCellsFrom -/
theorem qk_1190 (l : Launch) : ek_ok l tQ iQ kq_1190 := ek_good_ok (sp := sQ) (K := []) (SP := []) (HS := []) (N := 0) (fuel := 58) hIQ (fun _ h => absurd h List.not_mem_nil) (by decide +kernel)
def kq_1191 : ek := (63, [.inr 80, .inr 26], [], [(78, 3), (81, 999)], [(none, [])], 1, 65)
/-- LoadsAhead.State copySetsFrom -/
theorem qk_1191 (l : Launch) : ek_ok l tQ iQ kq_1191 := ek_good_ok (sp := sQ) (K := []) (SP := []) (HS := []) (N := 0) (fuel := 34) hIQ (fun _ h => absurd h List.not_mem_nil) (by decide +kernel)
def kq_1192 : ek := (61, [.inr 80, .inr 26], [], [(78, 3), (78, 4), (78, 5), (79, 999), (80, 999), (81, 999)], [(none, [])], 2, 86)
/-- LoadsAhead.State copyFrom -/
theorem qk_1192 (l : Launch) : ek_ok l tQ iQ kq_1192 := ek_good_ok (sp := sQ) (K := [kq_1191, kq_1190]) (SP := []) (HS := []) (N := 0) (fuel := 22) hIQ (List.forall_mem_cons.mpr ⟨qk_1191 l, List.forall_mem_cons.mpr ⟨qk_1190 l, fun _ h => absurd h List.not_mem_nil⟩⟩) (by decide +kernel)
def kq_1193 : ek := (129, [.inr 2], [], [(0, 9), (0, 10), (78, 3), (78, 4), (78, 5), (79, 999), (80, 999), (81, 999)], [(some (.inl (0, 9999)), [((2, 0, 9), (1, 1), none), ((2, 0, 10), (0, 0), none)])], 3, 107)
/-- LoadsAhead keep -/
theorem qk_1193 (l : Launch) : ek_ok l tQ iQ kq_1193 := ek_good_ok (sp := sQ) (K := [kq_1192]) (SP := []) (HS := []) (N := 0) (fuel := 42) hIQ (List.forall_mem_cons.mpr ⟨qk_1192 l, fun _ h => absurd h List.not_mem_nil⟩) (by decide +kernel)
def kq_1194 : ek := (235, [.inr 86], [], [(84, 88), (84, 89), (84, 90), (84, 91), (84, 92), (146, 999), (147, 999), (148, 999)], [(some (.inl (0, 9999)), [])], 0, 0)
/-- LoadsAheadModel keep -/
theorem qk_1194 (l : Launch) : ek_ok l tQ iQ kq_1194 := ek_good_ok (sp := sQ) (K := []) (SP := []) (HS := [((39, [some (.inr 86, none), some (.inl (0, 8), none)], [], [], []), [(0, (0, 0, 0), 2), (1, (1, 1, 0), 8), (0, (0, 0, 0), 0)]), ((65, [some (.inr 86, none), some (.inl (0, 64), none)], [], [], []), [(0, (0, 0, 0), 1), (1, (1, 1, 0), 64), (0, (0, 0, 0), 0)]), ((91, [some (.inr 86, none), some (.inl (0, 20), none)], [], [], []), [(0, (0, 0, 0), 0), (1, (1, 1, 0), 20), (0, (0, 0, 0), 0)])]) (N := 3) (fuel := 52) hIQ (fun _ h => absurd h List.not_mem_nil) (by decide +kernel)
def kq_1195 : ek := (62, [.inr 26, .inr 80], [], [(24, 4), (24, 5), (25, 999), (26, 999)], [(none, [])], 1, 65)
/-- LoadsAhead.State copyCellsFrom -/
theorem qk_1195 (l : Launch) : ek_ok l tQ iQ kq_1195 := ek_good_ok (sp := sQ) (K := []) (SP := []) (HS := []) (N := 0) (fuel := 58) hIQ (fun _ h => absurd h List.not_mem_nil) (by decide +kernel)
def kq_1196 : ek := (63, [.inr 26, .inr 80], [], [(24, 3), (27, 999)], [(none, [])], 1, 65)
/-- LoadsAhead.State copySetsFrom -/
theorem qk_1196 (l : Launch) : ek_ok l tQ iQ kq_1196 := ek_good_ok (sp := sQ) (K := []) (SP := []) (HS := []) (N := 0) (fuel := 34) hIQ (fun _ h => absurd h List.not_mem_nil) (by decide +kernel)
def kq_1197 : ek := (130, [.inr 2], [], [(24, 3), (24, 4), (24, 5), (25, 999), (26, 999), (27, 999)], [(some (.inl (0, 0)), [((2, 0, 9), (0, 0), none)]), (some (.inl (1, 1)), [((2, 0, 9), (1, 1), none)])], 2, 86)
/-- LoadsAhead undo -/
theorem qk_1197 (l : Launch) : ek_ok l tQ iQ kq_1197 := ek_good_ok (sp := sQ) (K := [kq_1196, kq_1195]) (SP := []) (HS := []) (N := 0) (fuel := 48) hIQ (List.forall_mem_cons.mpr ⟨qk_1196 l, List.forall_mem_cons.mpr ⟨qk_1195 l, fun _ h => absurd h List.not_mem_nil⟩⟩) (by decide +kernel)
def kq_1198 : ek := (236, [.inr 86], [], [(84, 0), (84, 1), (84, 3), (85, 999), (86, 999), (87, 999)], [(some (.inl (0, 0)), [((2, 84, 88), (0, 0), none)]), (some (.inl (1, 1)), [])], 0, 0)
/-- LoadsAheadModel undo -/
theorem qk_1198 (l : Launch) : ek_ok l tQ iQ kq_1198 := ek_good_ok (sp := sQ) (K := []) (SP := []) (HS := [((27, [some (.inr 86, none), some (.inl (0, 8), none)], [], [], []), [(0, (0, 0, 0), 2), (1, (1, 1, 0), 8), (0, (0, 0, 0), 0)]), ((53, [some (.inr 86, none), some (.inl (0, 64), none)], [], [], []), [(0, (0, 0, 0), 1), (1, (1, 1, 0), 64), (0, (0, 0, 0), 0)]), ((100, [some (.inr 86, none), some (.inl (0, 20), none)], [], [], []), [(0, (0, 0, 0), 0), (1, (1, 1, 0), 20), (0, (0, 0, 0), 0)])]) (N := 3) (fuel := 38) hIQ (fun _ h => absurd h List.not_mem_nil) (by decide +kernel)
def kq_1199 : ek := (131, [.inr 2, .inl ((-2147483648), (-1))], [], [], [(some (.inl ((-2), (-2))), [])], 0, 0)
/-- LoadsAhead check -/
theorem qk_1199 (l : Launch) : ek_ok l tQ iQ kq_1199 := ek_good_ok (sp := sQ) (K := []) (SP := []) (HS := []) (N := 0) (fuel := 16) hIQ (fun _ h => absurd h List.not_mem_nil) (by decide +kernel)
def kq_1200 : ek := (131, [.inr 2, .inl (0, 0)], [], [(1, 1)], [(some (.inl ((-1), (-1))), [((2, 1, 1), (0, 0), none)])], 1, 20)
/-- LoadsAhead check -/
theorem qk_1200 (l : Launch) : ek_ok l tQ iQ kq_1200 := ek_good_ok (sp := sQ) (K := [kq_103]) (SP := []) (HS := [((28, [some (.inr 2, none), some (.inl (0, 0), none), some (.inl ((-1), (-1)), none), some (.inl (0, 0), none)], [], [], []), [(0, (0, 0, 0), 0)])]) (N := 1) (fuel := 38) hIQ (List.forall_mem_cons.mpr ⟨qk_103 l, fun _ h => absurd h List.not_mem_nil⟩) (by decide +kernel)
def kq_1201 : ek := (131, [.inr 2, .inl (1, 64)], [], [(1, 1)], [(some (.inl ((-2), (-2))), [((2, 1, 1), (0, 63), none)]), (some (.inl (0, 63)), [((2, 1, 1), (0, 0), none)]), (some (.inl ((-1), 63)), [((2, 1, 1), (0, 0), none)])], 1, 20)
/-- LoadsAhead check -/
theorem qk_1201 (l : Launch) : ek_ok l tQ iQ kq_1201 := ek_good_ok (sp := sQ) (K := [kq_103]) (SP := []) (HS := [((28, [some (.inr 2, none), some (.inl (1, 64), none), some (.inl ((-1), 63), none), some (.inl (0, 64), none)], [], [], []), [(0, (0, 0, 0), 0), (1, (1, 3, 0), 64), (0, (0, 0, 0), 0)])]) (N := 3) (fuel := 54) hIQ (List.forall_mem_cons.mpr ⟨qk_103 l, fun _ h => absurd h List.not_mem_nil⟩) (by decide +kernel)
def kq_1202 : ek := (131, [.inr 2, .inl (65, 2147483647)], [], [], [(some (.inl ((-2), (-2))), [])], 0, 0)
/-- LoadsAhead check -/
theorem qk_1202 (l : Launch) : ek_ok l tQ iQ kq_1202 := ek_good_ok (sp := sQ) (K := []) (SP := []) (HS := []) (N := 0) (fuel := 22) hIQ (fun _ h => absurd h List.not_mem_nil) (by decide +kernel)
def kq_1203 : ek := (137, [.inl ((-2147483648), (-1)), .inl (0, 0), .inl (64, 64)], [], [], [(some (.inl (0, 0)), [])], 0, 0)
/-- LoadsAheadModel in -/
theorem qk_1203 (l : Launch) : ek_ok l tQ iQ kq_1203 := ek_good_ok (sp := sQ) (K := []) (SP := []) (HS := []) (N := 0) (fuel := 18) hIQ (fun _ h => absurd h List.not_mem_nil) (by decide +kernel)
def kq_1204 : ek := (237, [.inr 86, .inl ((-2147483648), (-1))], [], [], [(some (.inl ((-2), (-2))), [])], 1, 22)
/-- LoadsAheadModel check -/
theorem qk_1204 (l : Launch) : ek_ok l tQ iQ kq_1204 := ek_good_ok (sp := sQ) (K := [kq_1203]) (SP := [(4, [(2, [(-1), 64])])]) (HS := []) (N := 0) (fuel := 22) hIQ (List.forall_mem_cons.mpr ⟨qk_1203 l, fun _ h => absurd h List.not_mem_nil⟩) (by decide +kernel)
def kq_1205 : ek := (137, [.inl (0, 0), .inl (0, 0), .inl (64, 64)], [], [], [(some (.inl (1, 1)), [])], 0, 0)
/-- LoadsAheadModel in -/
theorem qk_1205 (l : Launch) : ek_ok l tQ iQ kq_1205 := ek_good_ok (sp := sQ) (K := []) (SP := []) (HS := []) (N := 0) (fuel := 26) hIQ (fun _ h => absurd h List.not_mem_nil) (by decide +kernel)
def kq_1206 : ek := (237, [.inr 86, .inl (0, 0)], [], [(84, 18)], [(some (.inl ((-1), (-1))), [])], 1, 22)
/-- LoadsAheadModel check -/
theorem qk_1206 (l : Launch) : ek_ok l tQ iQ kq_1206 := ek_good_ok (sp := sQ) (K := [kq_1205]) (SP := [(4, [(2, [(-1), 64])])]) (HS := [((28, [some (.inr 86, none), some (.inl (0, 0), none), some (.inl (0, 0), none)], [], [], []), [(0, (0, 0, 0), 0)])]) (N := 1) (fuel := 38) hIQ (List.forall_mem_cons.mpr ⟨qk_1205 l, fun _ h => absurd h List.not_mem_nil⟩) (by decide +kernel)
def kq_1207 : ek := (137, [.inl (1, 64), .inl (0, 0), .inl (64, 64)], [], [], [(some (.inl (1, 1)), [])], 0, 0)
/-- LoadsAheadModel in -/
theorem qk_1207 (l : Launch) : ek_ok l tQ iQ kq_1207 := ek_good_ok (sp := sQ) (K := []) (SP := []) (HS := []) (N := 0) (fuel := 26) hIQ (fun _ h => absurd h List.not_mem_nil) (by decide +kernel)
def kq_1208 : ek := (238, [.inr 86, .inl (0, 63)], [], [], [(some (.inl (0, 255)), [])], 0, 0)
/-- LoadsAheadModel octet -/
theorem qk_1208 (l : Launch) : ek_ok l tQ iQ kq_1208 := ek_good_ok (sp := sQ) (K := []) (SP := []) (HS := []) (N := 0) (fuel := 22) hIQ (fun _ h => absurd h List.not_mem_nil) (by decide +kernel)
def kq_1209 : ek := (237, [.inr 86, .inl (1, 64)], [], [(84, 18)], [(some (.inl ((-2), (-1))), []), (some (.inl (0, 63)), [])], 1, 22)
/-- LoadsAheadModel check -/
theorem qk_1209 (l : Launch) : ek_ok l tQ iQ kq_1209 := ek_good_ok (sp := sQ) (K := [kq_1207, kq_1208]) (SP := [(4, [(2, [(-1), 64])])]) (HS := [((28, [some (.inr 86, none), some (.inl (1, 64), none), some (.inl (0, 64), none)], [], [], []), [(0, (0, 0, 0), 0), (1, (1, 2, 0), 64), (0, (0, 0, 0), 0)])]) (N := 3) (fuel := 38) hIQ (List.forall_mem_cons.mpr ⟨qk_1207 l, List.forall_mem_cons.mpr ⟨qk_1208 l, fun _ h => absurd h List.not_mem_nil⟩⟩) (by decide +kernel)
def kq_1210 : ek := (238, [.inr 86, .inl (0, 0)], [], [], [(some (.inl (0, 255)), [])], 0, 0)
/-- LoadsAheadModel octet -/
theorem qk_1210 (l : Launch) : ek_ok l tQ iQ kq_1210 := ek_good_ok (sp := sQ) (K := []) (SP := []) (HS := []) (N := 0) (fuel := 22) hIQ (fun _ h => absurd h List.not_mem_nil) (by decide +kernel)
def kq_1211 : ek := (238, [.inr 86, .inl (0, 1)], [], [], [(some (.inl (0, 255)), [])], 0, 0)
/-- LoadsAheadModel octet -/
theorem qk_1211 (l : Launch) : ek_ok l tQ iQ kq_1211 := ek_good_ok (sp := sQ) (K := []) (SP := []) (HS := []) (N := 0) (fuel := 22) hIQ (fun _ h => absurd h List.not_mem_nil) (by decide +kernel)
def kq_1212 : ek := (238, [.inr 86, .inl (0, 3)], [], [], [(some (.inl (0, 255)), [])], 0, 0)
/-- LoadsAheadModel octet -/
theorem qk_1212 (l : Launch) : ek_ok l tQ iQ kq_1212 := ek_good_ok (sp := sQ) (K := []) (SP := []) (HS := []) (N := 0) (fuel := 22) hIQ (fun _ h => absurd h List.not_mem_nil) (by decide +kernel)
def kq_1213 : ek := (238, [.inr 86, .inl (0, 7)], [], [], [(some (.inl (0, 255)), [])], 0, 0)
/-- LoadsAheadModel octet -/
theorem qk_1213 (l : Launch) : ek_ok l tQ iQ kq_1213 := ek_good_ok (sp := sQ) (K := []) (SP := []) (HS := []) (N := 0) (fuel := 22) hIQ (fun _ h => absurd h List.not_mem_nil) (by decide +kernel)
def kq_1214 : ek := (238, [.inr 86, .inl (0, 15)], [], [], [(some (.inl (0, 255)), [])], 0, 0)
/-- LoadsAheadModel octet -/
theorem qk_1214 (l : Launch) : ek_ok l tQ iQ kq_1214 := ek_good_ok (sp := sQ) (K := []) (SP := []) (HS := []) (N := 0) (fuel := 22) hIQ (fun _ h => absurd h List.not_mem_nil) (by decide +kernel)
