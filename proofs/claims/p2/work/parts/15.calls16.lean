def kq_1159 : ek := (231, [.inr 86, .inl (2, 2147483647), .inl ((-2147483648), 2147483647), .inl ((-2147483648), 2147483647)], [], [], [(some (.inl ((-100000), (-100000))), [])], 1, 22)
/-- LoadsAheadModel watched -/
theorem qk_1159 (l : Launch) : ek_ok l tQ iQ kq_1159 := ek_good_ok (sp := sQ) (K := [kq_1072]) (SP := [(3, [(2, [(-1), 1])])]) (HS := []) (N := 0) (fuel := 22) hIQ (List.forall_mem_cons.mpr ⟨qk_1072 l, fun _ h => absurd h List.not_mem_nil⟩) (by decide +kernel)
def kq_1160 : ek := (231, [.inr 86, .inl (0, 1), .inl ((-2147483648), (-1)), .inl ((-2147483648), 2147483647)], [], [], [(some (.inl ((-100000), (-100000))), [])], 1, 22)
/-- LoadsAheadModel watched -/
theorem qk_1160 (l : Launch) : ek_ok l tQ iQ kq_1160 := ek_good_ok (sp := sQ) (K := [kq_1055]) (SP := [(3, [(2, [(-1), 1])])]) (HS := []) (N := 0) (fuel := 26) hIQ (List.forall_mem_cons.mpr ⟨qk_1055 l, fun _ h => absurd h List.not_mem_nil⟩) (by decide +kernel)
def kq_1161 : ek := (137, [.inl ((-2147483648), (-1)), .inl (0, 0), .inl (6, 6)], [], [], [(some (.inl (0, 0)), [])], 0, 0)
/-- LoadsAheadModel in -/
theorem qk_1161 (l : Launch) : ek_ok l tQ iQ kq_1161 := ek_good_ok (sp := sQ) (K := []) (SP := []) (HS := []) (N := 0) (fuel := 18) hIQ (fun _ h => absurd h List.not_mem_nil) (by decide +kernel)
def kq_1162 : ek := (231, [.inr 86, .inl (0, 1), .inl (0, 2147483647), .inl ((-2147483648), (-1))], [], [], [(some (.inl ((-100000), (-100000))), [])], 1, 22)
/-- LoadsAheadModel watched -/
theorem qk_1162 (l : Launch) : ek_ok l tQ iQ kq_1162 := ek_good_ok (sp := sQ) (K := [kq_1055, kq_1161]) (SP := [(3, [(2, [(-1), 1])]), (17, [(2, [(-1), 6])])]) (HS := []) (N := 0) (fuel := 36) hIQ (List.forall_mem_cons.mpr ⟨qk_1055 l, List.forall_mem_cons.mpr ⟨qk_1161 l, fun _ h => absurd h List.not_mem_nil⟩⟩) (by decide +kernel)
def kq_1163 : ek := (137, [.inl (0, 6), .inl (0, 0), .inl (6, 6)], [], [], [(some (.inl (1, 1)), [])], 0, 0)
/-- LoadsAheadModel in -/
theorem qk_1163 (l : Launch) : ek_ok l tQ iQ kq_1163 := ek_good_ok (sp := sQ) (K := []) (SP := []) (HS := []) (N := 0) (fuel := 26) hIQ (fun _ h => absurd h List.not_mem_nil) (by decide +kernel)
def kq_1164 : ek := (231, [.inr 86, .inl (0, 1), .inl (0, 2147483647), .inl (0, 6)], [], [], [(some (.inl ((-4), (-2))), []), (some (.inl (0, 19)), []), (some (.inl ((-2147483648), 2147483647)), [((2, 84, 75), (1, 1), none)])], 1, 22)
/-- LoadsAheadModel watched -/
theorem qk_1164 (l : Launch) : ek_ok l tQ iQ kq_1164 := ek_good_ok (sp := sQ) (K := [kq_1055, kq_1163, kq_985]) (SP := [(3, [(2, [(-1), 1])]), (17, [(2, [(-1), 6])])]) (HS := []) (N := 0) (fuel := 78) hIQ (List.forall_mem_cons.mpr ⟨qk_1055 l, List.forall_mem_cons.mpr ⟨qk_1163 l, List.forall_mem_cons.mpr ⟨qk_985 l, fun _ h => absurd h List.not_mem_nil⟩⟩⟩) (by decide +kernel)
def kq_1165 : ek := (137, [.inl (7, 2147483647), .inl (0, 0), .inl (6, 6)], [], [], [(some (.inl (0, 0)), [])], 0, 0)
/-- LoadsAheadModel in -/
theorem qk_1165 (l : Launch) : ek_ok l tQ iQ kq_1165 := ek_good_ok (sp := sQ) (K := []) (SP := []) (HS := []) (N := 0) (fuel := 24) hIQ (fun _ h => absurd h List.not_mem_nil) (by decide +kernel)
def kq_1166 : ek := (231, [.inr 86, .inl (0, 1), .inl (0, 2147483647), .inl (7, 2147483647)], [], [], [(some (.inl ((-100000), (-100000))), [])], 1, 22)
/-- LoadsAheadModel watched -/
theorem qk_1166 (l : Launch) : ek_ok l tQ iQ kq_1166 := ek_good_ok (sp := sQ) (K := [kq_1055, kq_1165]) (SP := [(3, [(2, [(-1), 1])]), (17, [(2, [(-1), 6])])]) (HS := []) (N := 0) (fuel := 36) hIQ (List.forall_mem_cons.mpr ⟨qk_1055 l, List.forall_mem_cons.mpr ⟨qk_1165 l, fun _ h => absurd h List.not_mem_nil⟩⟩) (by decide +kernel)
def kq_1167 : ek := (127, [.inr 26], [], [], [(some (.inl ((-2147483648), 2147483647)), []), (some (.inl (0, 2147483647)), [])], 0, 0)
/-- LoadsAhead.State withSet -/
theorem qk_1167 (l : Launch) : ek_ok l tQ iQ kq_1167 := ek_good_ok (sp := sQ) (K := []) (SP := []) (HS := [((4, [some (.inr 26, none), some (.inl ((-2147483648), 2147483647), none), some (.inl (0, 20), none)], [], [], []), [(0, (0, 0, 0), 0), (1, (1, 2, 0), 20), (0, (0, 0, 0), 0)])]) (N := 3) (fuel := 34) hIQ (fun _ h => absurd h List.not_mem_nil) (by decide +kernel)
def kq_1169 : ek := (233, [.inr 86], [], [], [(some (.inl ((-2147483648), 2147483647)), []), (some (.inl (0, 2147483647)), [])], 0, 0)
/-- LoadsAheadModel withSet -/
theorem qk_1169 (l : Launch) : ek_ok l tQ iQ kq_1169 := ek_good_ok (sp := sQ) (K := []) (SP := []) (HS := [((4, [some (.inr 86, none), some (.inl ((-2147483648), 2147483647), none), some (.inl (0, 20), none)], [], [], []), [(0, (0, 0, 0), 0), (1, (1, 2, 0), 20), (0, (0, 0, 0), 0)])]) (N := 3) (fuel := 42) hIQ (fun _ h => absurd h List.not_mem_nil) (by decide +kernel)
def kq_1170 : ek := (232, [.inr 86], [], [(87, 999)], [(some (.inl (0, 2147483647)), []), (some (.inl ((-2147483648), 2147483647)), [])], 1, 22)
/-- LoadsAheadModel forget -/
theorem qk_1170 (l : Launch) : ek_ok l tQ iQ kq_1170 := ek_good_ok (sp := sQ) (K := [kq_1169]) (SP := []) (HS := [((7, [some (.inr 86, none), some (.inl ((-2147483648), 2147483647), none), some (.inl (0, 20), none)], [], [], []), [(0, (0, 0, 0), 0), (1, (1, 2, 0), 20), (0, (0, 0, 0), 0)])]) (N := 3) (fuel := 32) hIQ (List.forall_mem_cons.mpr ⟨qk_1169 l, fun _ h => absurd h List.not_mem_nil⟩) (by decide +kernel)
def kq_1171 : ek := (128, [.inr 2, .inl ((-2147483648), (-1))], [], [], [(some (.inl (0, 0)), [])], 0, 0)
/-- LoadsAhead seed -/
theorem qk_1171 (l : Launch) : ek_ok l tQ iQ kq_1171 := ek_good_ok (sp := sQ) (K := []) (SP := []) (HS := []) (N := 0) (fuel := 16) hIQ (fun _ h => absurd h List.not_mem_nil) (by decide +kernel)
def kq_1172 : ek := (128, [.inr 2, .inl (0, 65535)], [], [(24, 5)], [(some (.inl (1, 1)), [])], 0, 0)
/-- LoadsAhead seed -/
theorem qk_1172 (l : Launch) : ek_ok l tQ iQ kq_1172 := ek_good_ok (sp := sQ) (K := []) (SP := []) (HS := []) (N := 0) (fuel := 32) hIQ (fun _ h => absurd h List.not_mem_nil) (by decide +kernel)
def kq_1173 : ek := (128, [.inr 2, .inl (65536, 2147483647)], [], [], [(some (.inl (0, 0)), [])], 0, 0)
/-- LoadsAhead seed -/
theorem qk_1173 (l : Launch) : ek_ok l tQ iQ kq_1173 := ek_good_ok (sp := sQ) (K := []) (SP := []) (HS := []) (N := 0) (fuel := 22) hIQ (fun _ h => absurd h List.not_mem_nil) (by decide +kernel)
def kq_1174 : ek := (137, [.inl ((-2147483648), (-1)), .inl (0, 0), .inl (65535, 65535)], [], [], [(some (.inl (0, 0)), [])], 0, 0)
/-- LoadsAheadModel in -/
theorem qk_1174 (l : Launch) : ek_ok l tQ iQ kq_1174 := ek_good_ok (sp := sQ) (K := []) (SP := []) (HS := []) (N := 0) (fuel := 18) hIQ (fun _ h => absurd h List.not_mem_nil) (by decide +kernel)
def kq_1175 : ek := (234, [.inr 86, .inl ((-2147483648), (-1))], [], [], [(some (.inl (0, 0)), [])], 1, 22)
/-- LoadsAheadModel seed -/
theorem qk_1175 (l : Launch) : ek_ok l tQ iQ kq_1175 := ek_good_ok (sp := sQ) (K := [kq_1174]) (SP := [(5, [(2, [(-1), 65535])])]) (HS := []) (N := 0) (fuel := 22) hIQ (List.forall_mem_cons.mpr ⟨qk_1174 l, fun _ h => absurd h List.not_mem_nil⟩) (by decide +kernel)
def kq_1176 : ek := (137, [.inl (0, 65535), .inl (0, 0), .inl (65535, 65535)], [], [], [(some (.inl (1, 1)), [])], 0, 0)
/-- LoadsAheadModel in -/
theorem qk_1176 (l : Launch) : ek_ok l tQ iQ kq_1176 := ek_good_ok (sp := sQ) (K := []) (SP := []) (HS := []) (N := 0) (fuel := 26) hIQ (fun _ h => absurd h List.not_mem_nil) (by decide +kernel)
def kq_1177 : ek := (234, [.inr 86, .inl (0, 65535)], [], [(84, 0)], [(some (.inl (1, 1)), [])], 1, 22)
/-- LoadsAheadModel seed -/
theorem qk_1177 (l : Launch) : ek_ok l tQ iQ kq_1177 := ek_good_ok (sp := sQ) (K := [kq_1176]) (SP := [(5, [(2, [(-1), 65535])])]) (HS := []) (N := 0) (fuel := 28) hIQ (List.forall_mem_cons.mpr ⟨qk_1176 l, fun _ h => absurd h List.not_mem_nil⟩) (by decide +kernel)
def kq_1178 : ek := (137, [.inl (65536, 2147483647), .inl (0, 0), .inl (65535, 65535)], [], [], [(some (.inl (0, 0)), [])], 0, 0)
/-- LoadsAheadModel in -/
theorem qk_1178 (l : Launch) : ek_ok l tQ iQ kq_1178 := ek_good_ok (sp := sQ) (K := []) (SP := []) (HS := []) (N := 0) (fuel := 24) hIQ (fun _ h => absurd h List.not_mem_nil) (by decide +kernel)
def kq_1179 : ek := (234, [.inr 86, .inl (65536, 2147483647)], [], [], [(some (.inl (0, 0)), [])], 1, 22)
/-- LoadsAheadModel seed -/
theorem qk_1179 (l : Launch) : ek_ok l tQ iQ kq_1179 := ek_good_ok (sp := sQ) (K := [kq_1178]) (SP := [(5, [(2, [(-1), 65535])])]) (HS := []) (N := 0) (fuel := 22) hIQ (List.forall_mem_cons.mpr ⟨qk_1178 l, fun _ h => absurd h List.not_mem_nil⟩) (by decide +kernel)
def kq_1180 : ek := (62, [.inr 80, .inr 26], [], [(78, 4), (78, 5), (79, 999), (80, 999)], [(none, [])], 1, 65)
/-- LoadsAhead.State copyCellsFrom -/
theorem qk_1180 (l : Launch) : ek_ok l tQ iQ kq_1180 := ek_good_ok (sp := sQ) (K := []) (SP := []) (HS := []) (N := 0) (fuel := 58) hIQ (fun _ h => absurd h List.not_mem_nil) (by decide +kernel)
def kq_1181 : ek := (63, [.inr 80, .inr 26], [], [(78, 3), (81, 999)], [(none, [])], 1, 65)
/-- LoadsAhead.State copySetsFrom -/
theorem qk_1181 (l : Launch) : ek_ok l tQ iQ kq_1181 := ek_good_ok (sp := sQ) (K := []) (SP := []) (HS := []) (N := 0) (fuel := 34) hIQ (fun _ h => absurd h List.not_mem_nil) (by decide +kernel)
def kq_1182 : ek := (61, [.inr 80, .inr 26], [], [(78, 3), (78, 4), (78, 5), (79, 999), (80, 999), (81, 999)], [(none, [])], 2, 86)
/-- LoadsAhead.State copyFrom -/
theorem qk_1182 (l : Launch) : ek_ok l tQ iQ kq_1182 := ek_good_ok (sp := sQ) (K := [kq_1180, kq_1181]) (SP := []) (HS := []) (N := 0) (fuel := 22) hIQ (List.forall_mem_cons.mpr ⟨qk_1180 l, List.forall_mem_cons.mpr ⟨qk_1181 l, fun _ h => absurd h List.not_mem_nil⟩⟩) (by decide +kernel)
def kq_1183 : ek := (129, [.inr 2], [], [(0, 9), (0, 10), (78, 3), (78, 4), (78, 5), (79, 999), (80, 999), (81, 999)], [(some (.inl (0, 9999)), [((2, 0, 9), (1, 1), none), ((2, 0, 10), (0, 0), none)])], 3, 107)
/-- LoadsAhead keep -/
theorem qk_1183 (l : Launch) : ek_ok l tQ iQ kq_1183 := ek_good_ok (sp := sQ) (K := [kq_1182]) (SP := []) (HS := []) (N := 0) (fuel := 42) hIQ (List.forall_mem_cons.mpr ⟨qk_1182 l, fun _ h => absurd h List.not_mem_nil⟩) (by decide +kernel)
def kq_1184 : ek := (235, [.inr 86], [], [(84, 88), (84, 89), (84, 90), (84, 91), (84, 92), (146, 999), (147, 999), (148, 999)], [(some (.inl (0, 9999)), [])], 0, 0)
/-- LoadsAheadModel keep -/
theorem qk_1184 (l : Launch) : ek_ok l tQ iQ kq_1184 := ek_good_ok (sp := sQ) (K := []) (SP := []) (HS := [((39, [some (.inr 86, none), some (.inl (0, 8), none)], [], [], []), [(0, (0, 0, 0), 2), (1, (1, 1, 0), 8), (0, (0, 0, 0), 0)]), ((65, [some (.inr 86, none), some (.inl (0, 64), none)], [], [], []), [(0, (0, 0, 0), 1), (1, (1, 1, 0), 64), (0, (0, 0, 0), 0)]), ((91, [some (.inr 86, none), some (.inl (0, 20), none)], [], [], []), [(0, (0, 0, 0), 0), (1, (1, 1, 0), 20), (0, (0, 0, 0), 0)])]) (N := 3) (fuel := 52) hIQ (fun _ h => absurd h List.not_mem_nil) (by decide +kernel)
def kq_1185 : ek := (62, [.inr 26, .inr 80], [], [(24, 4), (24, 5), (25, 999), (26, 999)], [(none, [])], 1, 65)
/-- LoadsAhead.State copyCellsFrom -/
theorem qk_1185 (l : Launch) : ek_ok l tQ iQ kq_1185 := ek_good_ok (sp := sQ) (K := []) (SP := []) (HS := []) (N := 0) (fuel := 58) hIQ (fun _ h => absurd h List.not_mem_nil) (by decide +kernel)
def kq_1186 : ek := (63, [.inr 26, .inr 80], [], [(24, 3), (27, 999)], [(none, [])], 1, 65)
/-- LoadsAhead.State copySetsFrom -/
theorem qk_1186 (l : Launch) : ek_ok l tQ iQ kq_1186 := ek_good_ok (sp := sQ) (K := []) (SP := []) (HS := []) (N := 0) (fuel := 34) hIQ (fun _ h => absurd h List.not_mem_nil) (by decide +kernel)
def kq_1187 : ek := (130, [.inr 2], [], [(24, 3), (24, 4), (24, 5), (25, 999), (26, 999), (27, 999)], [(some (.inl (0, 0)), [((2, 0, 9), (0, 0), none)]), (some (.inl (1, 1)), [((2, 0, 9), (1, 1), none)])], 2, 86)
/-- LoadsAhead undo -/
theorem qk_1187 (l : Launch) : ek_ok l tQ iQ kq_1187 := ek_good_ok (sp := sQ) (K := [kq_1186, kq_1185]) (SP := []) (HS := []) (N := 0) (fuel := 48) hIQ (List.forall_mem_cons.mpr ⟨qk_1186 l, List.forall_mem_cons.mpr ⟨qk_1185 l, fun _ h => absurd h List.not_mem_nil⟩⟩) (by decide +kernel)
def kq_1188 : ek := (236, [.inr 86], [], [(84, 0), (84, 1), (84, 3), (85, 999), (86, 999), (87, 999)], [(some (.inl (0, 0)), [((2, 84, 88), (0, 0), none)]), (some (.inl (1, 1)), [])], 0, 0)
/-- LoadsAheadModel undo -/
theorem qk_1188 (l : Launch) : ek_ok l tQ iQ kq_1188 := ek_good_ok (sp := sQ) (K := []) (SP := []) (HS := [((27, [some (.inr 86, none), some (.inl (0, 8), none)], [], [], []), [(0, (0, 0, 0), 2), (1, (1, 1, 0), 8), (0, (0, 0, 0), 0)]), ((53, [some (.inr 86, none), some (.inl (0, 64), none)], [], [], []), [(0, (0, 0, 0), 1), (1, (1, 1, 0), 64), (0, (0, 0, 0), 0)]), ((100, [some (.inr 86, none), some (.inl (0, 20), none)], [], [], []), [(0, (0, 0, 0), 0), (1, (1, 1, 0), 20), (0, (0, 0, 0), 0)])]) (N := 3) (fuel := 38) hIQ (fun _ h => absurd h List.not_mem_nil) (by decide +kernel)
def kq_1189 : ek := (131, [.inr 2, .inl ((-2147483648), (-1))], [], [], [(some (.inl ((-2), (-2))), [])], 0, 0)
/-- LoadsAhead check -/
theorem qk_1189 (l : Launch) : ek_ok l tQ iQ kq_1189 := ek_good_ok (sp := sQ) (K := []) (SP := []) (HS := []) (N := 0) (fuel := 16) hIQ (fun _ h => absurd h List.not_mem_nil) (by decide +kernel)
def kq_1190 : ek := (131, [.inr 2, .inl (0, 0)], [], [(1, 1)], [(some (.inl ((-1), (-1))), [((2, 1, 1), (0, 0), none)])], 1, 20)
/-- LoadsAhead check -/
theorem qk_1190 (l : Launch) : ek_ok l tQ iQ kq_1190 := ek_good_ok (sp := sQ) (K := [kq_103]) (SP := []) (HS := [((28, [some (.inr 2, none), some (.inl (0, 0), none), some (.inl ((-1), (-1)), none), some (.inl (0, 0), none)], [], [], []), [(0, (0, 0, 0), 0)])]) (N := 1) (fuel := 38) hIQ (List.forall_mem_cons.mpr ⟨qk_103 l, fun _ h => absurd h List.not_mem_nil⟩) (by decide +kernel)
def kq_1191 : ek := (131, [.inr 2, .inl (1, 64)], [], [(1, 1)], [(some (.inl ((-2), (-2))), [((2, 1, 1), (0, 63), none)]), (some (.inl (0, 63)), [((2, 1, 1), (0, 0), none)]), (some (.inl ((-1), 63)), [((2, 1, 1), (0, 0), none)])], 1, 20)
/-- LoadsAhead check -/
theorem qk_1191 (l : Launch) : ek_ok l tQ iQ kq_1191 := ek_good_ok (sp := sQ) (K := [kq_103]) (SP := []) (HS := [((28, [some (.inr 2, none), some (.inl (1, 64), none), some (.inl ((-1), 63), none), some (.inl (0, 64), none)], [], [], []), [(0, (0, 0, 0), 0), (1, (1, 3, 0), 64), (0, (0, 0, 0), 0)])]) (N := 3) (fuel := 54) hIQ (List.forall_mem_cons.mpr ⟨qk_103 l, fun _ h => absurd h List.not_mem_nil⟩) (by decide +kernel)
def kq_1192 : ek := (131, [.inr 2, .inl (65, 2147483647)], [], [], [(some (.inl ((-2), (-2))), [])], 0, 0)
/-- LoadsAhead check -/
theorem qk_1192 (l : Launch) : ek_ok l tQ iQ kq_1192 := ek_good_ok (sp := sQ) (K := []) (SP := []) (HS := []) (N := 0) (fuel := 22) hIQ (fun _ h => absurd h List.not_mem_nil) (by decide +kernel)
def kq_1193 : ek := (137, [.inl ((-2147483648), (-1)), .inl (0, 0), .inl (64, 64)], [], [], [(some (.inl (0, 0)), [])], 0, 0)
/-- LoadsAheadModel in -/
theorem qk_1193 (l : Launch) : ek_ok l tQ iQ kq_1193 := ek_good_ok (sp := sQ) (K := []) (SP := []) (HS := []) (N := 0) (fuel := 18) hIQ (fun _ h => absurd h List.not_mem_nil) (by decide +kernel)
def kq_1194 : ek := (237, [.inr 86, .inl ((-2147483648), (-1))], [], [], [(some (.inl ((-2), (-2))), [])], 1, 22)
/-- LoadsAheadModel check -/
theorem qk_1194 (l : Launch) : ek_ok l tQ iQ kq_1194 := ek_good_ok (sp := sQ) (K := [kq_1193]) (SP := [(4, [(2, [(-1), 64])])]) (HS := []) (N := 0) (fuel := 22) hIQ (List.forall_mem_cons.mpr ⟨qk_1193 l, fun _ h => absurd h List.not_mem_nil⟩) (by decide +kernel)
def kq_1195 : ek := (137, [.inl (0, 0), .inl (0, 0), .inl (64, 64)], [], [], [(some (.inl (1, 1)), [])], 0, 0)
/-- LoadsAheadModel in -/
theorem qk_1195 (l : Launch) : ek_ok l tQ iQ kq_1195 := ek_good_ok (sp := sQ) (K := []) (SP := []) (HS := []) (N := 0) (fuel := 26) hIQ (fun _ h => absurd h List.not_mem_nil) (by decide +kernel)
def kq_1196 : ek := (237, [.inr 86, .inl (0, 0)], [], [(84, 18)], [(some (.inl ((-1), (-1))), [])], 1, 22)
/-- LoadsAheadModel check -/
theorem qk_1196 (l : Launch) : ek_ok l tQ iQ kq_1196 := ek_good_ok (sp := sQ) (K := [kq_1195]) (SP := [(4, [(2, [(-1), 64])])]) (HS := [((28, [some (.inr 86, none), some (.inl (0, 0), none), some (.inl (0, 0), none)], [], [], []), [(0, (0, 0, 0), 0)])]) (N := 1) (fuel := 38) hIQ (List.forall_mem_cons.mpr ⟨qk_1195 l, fun _ h => absurd h List.not_mem_nil⟩) (by decide +kernel)
def kq_1197 : ek := (137, [.inl (1, 64), .inl (0, 0), .inl (64, 64)], [], [], [(some (.inl (1, 1)), [])], 0, 0)
/-- LoadsAheadModel in -/
theorem qk_1197 (l : Launch) : ek_ok l tQ iQ kq_1197 := ek_good_ok (sp := sQ) (K := []) (SP := []) (HS := []) (N := 0) (fuel := 26) hIQ (fun _ h => absurd h List.not_mem_nil) (by decide +kernel)
def kq_1198 : ek := (238, [.inr 86, .inl (0, 63)], [], [], [(some (.inl (0, 255)), [])], 0, 0)
/-- LoadsAheadModel octet -/
theorem qk_1198 (l : Launch) : ek_ok l tQ iQ kq_1198 := ek_good_ok (sp := sQ) (K := []) (SP := []) (HS := []) (N := 0) (fuel := 22) hIQ (fun _ h => absurd h List.not_mem_nil) (by decide +kernel)
def kq_1199 : ek := (237, [.inr 86, .inl (1, 64)], [], [(84, 18)], [(some (.inl ((-2), (-1))), []), (some (.inl (0, 63)), [])], 1, 22)
/-- LoadsAheadModel check -/
theorem qk_1199 (l : Launch) : ek_ok l tQ iQ kq_1199 := ek_good_ok (sp := sQ) (K := [kq_1197, kq_1198]) (SP := [(4, [(2, [(-1), 64])])]) (HS := [((28, [some (.inr 86, none), some (.inl (1, 64), none), some (.inl (0, 64), none)], [], [], []), [(0, (0, 0, 0), 0), (1, (1, 2, 0), 64), (0, (0, 0, 0), 0)])]) (N := 3) (fuel := 38) hIQ (List.forall_mem_cons.mpr ⟨qk_1197 l, List.forall_mem_cons.mpr ⟨qk_1198 l, fun _ h => absurd h List.not_mem_nil⟩⟩) (by decide +kernel)
def kq_1200 : ek := (238, [.inr 86, .inl (0, 0)], [], [], [(some (.inl (0, 255)), [])], 0, 0)
/-- LoadsAheadModel octet -/
theorem qk_1200 (l : Launch) : ek_ok l tQ iQ kq_1200 := ek_good_ok (sp := sQ) (K := []) (SP := []) (HS := []) (N := 0) (fuel := 22) hIQ (fun _ h => absurd h List.not_mem_nil) (by decide +kernel)
def kq_1201 : ek := (238, [.inr 86, .inl (0, 1)], [], [], [(some (.inl (0, 255)), [])], 0, 0)
/-- LoadsAheadModel octet -/
theorem qk_1201 (l : Launch) : ek_ok l tQ iQ kq_1201 := ek_good_ok (sp := sQ) (K := []) (SP := []) (HS := []) (N := 0) (fuel := 22) hIQ (fun _ h => absurd h List.not_mem_nil) (by decide +kernel)
def kq_1202 : ek := (238, [.inr 86, .inl (0, 3)], [], [], [(some (.inl (0, 255)), [])], 0, 0)
/-- LoadsAheadModel octet -/
theorem qk_1202 (l : Launch) : ek_ok l tQ iQ kq_1202 := ek_good_ok (sp := sQ) (K := []) (SP := []) (HS := []) (N := 0) (fuel := 22) hIQ (fun _ h => absurd h List.not_mem_nil) (by decide +kernel)
def kq_1203 : ek := (238, [.inr 86, .inl (0, 7)], [], [], [(some (.inl (0, 255)), [])], 0, 0)
/-- LoadsAheadModel octet -/
theorem qk_1203 (l : Launch) : ek_ok l tQ iQ kq_1203 := ek_good_ok (sp := sQ) (K := []) (SP := []) (HS := []) (N := 0) (fuel := 22) hIQ (fun _ h => absurd h List.not_mem_nil) (by decide +kernel)
def kq_1204 : ek := (238, [.inr 86, .inl (0, 15)], [], [], [(some (.inl (0, 255)), [])], 0, 0)
/-- LoadsAheadModel octet -/
theorem qk_1204 (l : Launch) : ek_ok l tQ iQ kq_1204 := ek_good_ok (sp := sQ) (K := []) (SP := []) (HS := []) (N := 0) (fuel := 22) hIQ (fun _ h => absurd h List.not_mem_nil) (by decide +kernel)
def kq_1205 : ek := (238, [.inr 86, .inl (0, 19)], [], [], [(some (.inl (0, 255)), [])], 0, 0)
/-- LoadsAheadModel octet -/
theorem qk_1205 (l : Launch) : ek_ok l tQ iQ kq_1205 := ek_good_ok (sp := sQ) (K := []) (SP := []) (HS := []) (N := 0) (fuel := 22) hIQ (fun _ h => absurd h List.not_mem_nil) (by decide +kernel)
def kq_1206 : ek := (238, [.inr 86, .inl (0, 20)], [], [], [(some (.inl (0, 255)), [])], 0, 0)
/-- LoadsAheadModel octet -/
theorem qk_1206 (l : Launch) : ek_ok l tQ iQ kq_1206 := ek_good_ok (sp := sQ) (K := []) (SP := []) (HS := []) (N := 0) (fuel := 22) hIQ (fun _ h => absurd h List.not_mem_nil) (by decide +kernel)
def kq_1207 : ek := (137, [.inl (65, 2147483647), .inl (0, 0), .inl (64, 64)], [], [], [(some (.inl (0, 0)), [])], 0, 0)
/-- LoadsAheadModel in -/
theorem qk_1207 (l : Launch) : ek_ok l tQ iQ kq_1207 := ek_good_ok (sp := sQ) (K := []) (SP := []) (HS := []) (N := 0) (fuel := 24) hIQ (fun _ h => absurd h List.not_mem_nil) (by decide +kernel)
def kq_1208 : ek := (237, [.inr 86, .inl (65, 2147483647)], [], [], [(some (.inl ((-2), (-2))), [])], 1, 22)
/-- LoadsAheadModel check -/
theorem qk_1208 (l : Launch) : ek_ok l tQ iQ kq_1208 := ek_good_ok (sp := sQ) (K := [kq_1207]) (SP := [(4, [(2, [(-1), 64])])]) (HS := []) (N := 0) (fuel := 22) hIQ (List.forall_mem_cons.mpr ⟨qk_1207 l, fun _ h => absurd h List.not_mem_nil⟩) (by decide +kernel)
def kq_1209 : ek := (132, [.inr 2, .inl ((-2147483648), (-1))], [], [], [(some (.inl ((-1), (-1))), [])], 0, 0)
/-- LoadsAhead count -/
theorem qk_1209 (l : Launch) : ek_ok l tQ iQ kq_1209 := ek_good_ok (sp := sQ) (K := []) (SP := []) (HS := []) (N := 0) (fuel := 16) hIQ (fun _ h => absurd h List.not_mem_nil) (by decide +kernel)
def kq_1210 : ek := (132, [.inr 2, .inl (0, 0)], [], [], [(some (.inl (0, 9999)), [])], 0, 0)
/-- LoadsAhead count -/
theorem qk_1210 (l : Launch) : ek_ok l tQ iQ kq_1210 := ek_good_ok (sp := sQ) (K := []) (SP := []) (HS := []) (N := 0) (fuel := 22) hIQ (fun _ h => absurd h List.not_mem_nil) (by decide +kernel)
def kq_1211 : ek := (132, [.inr 2, .inl (1, 1)], [], [], [(some (.inl (0, 20)), [])], 0, 0)
/-- LoadsAhead count -/
theorem qk_1211 (l : Launch) : ek_ok l tQ iQ kq_1211 := ek_good_ok (sp := sQ) (K := []) (SP := []) (HS := []) (N := 0) (fuel := 22) hIQ (fun _ h => absurd h List.not_mem_nil) (by decide +kernel)
def kq_1212 : ek := (133, [.inr 6, .inl (2, 2)], [], [], [(some (.inl ((-2147483648), 2147483647)), []), (some (.inl (0, 2147483647)), [])], 0, 0)
/-- LoadsAhead.Program ofKind -/
theorem qk_1212 (l : Launch) : ek_ok l tQ iQ kq_1212 := ek_good_ok (sp := sQ) (K := []) (SP := []) (HS := [((4, [some (.inr 6, none), some (.inl (2, 2), none), some (.inl ((-2147483648), 2147483647), none), some (.inl (0, 20), none)], [], [], []), [(0, (0, 0, 0), 0), (1, (1, 3, 0), 20), (0, (0, 0, 0), 0)])]) (N := 3) (fuel := 36) hIQ (fun _ h => absurd h List.not_mem_nil) (by decide +kernel)
def kq_1213 : ek := (132, [.inr 2, .inl (2, 2)], [], [], [(some (.inl (0, 2147483647)), []), (some (.inl ((-2147483648), 2147483647)), [])], 1, 23)
/-- LoadsAhead count -/
theorem qk_1213 (l : Launch) : ek_ok l tQ iQ kq_1213 := ek_good_ok (sp := sQ) (K := [kq_1212]) (SP := []) (HS := []) (N := 0) (fuel := 24) hIQ (List.forall_mem_cons.mpr ⟨qk_1212 l, fun _ h => absurd h List.not_mem_nil⟩) (by decide +kernel)
def kq_1214 : ek := (133, [.inr 6, .inl (3, 3)], [], [], [(some (.inl ((-2147483648), 2147483647)), []), (some (.inl (0, 2147483647)), [])], 0, 0)
/-- LoadsAhead.Program ofKind -/
theorem qk_1214 (l : Launch) : ek_ok l tQ iQ kq_1214 := ek_good_ok (sp := sQ) (K := []) (SP := []) (HS := [((4, [some (.inr 6, none), some (.inl (3, 3), none), some (.inl ((-2147483648), 2147483647), none), some (.inl (0, 20), none)], [], [], []), [(0, (0, 0, 0), 0), (1, (1, 3, 0), 20), (0, (0, 0, 0), 0)])]) (N := 3) (fuel := 36) hIQ (fun _ h => absurd h List.not_mem_nil) (by decide +kernel)
def kq_1215 : ek := (132, [.inr 2, .inl (3, 3)], [], [], [(some (.inl (0, 2147483647)), []), (some (.inl ((-2147483648), 2147483647)), [])], 1, 23)
/-- LoadsAhead count -/
theorem qk_1215 (l : Launch) : ek_ok l tQ iQ kq_1215 := ek_good_ok (sp := sQ) (K := [kq_1214]) (SP := []) (HS := []) (N := 0) (fuel := 24) hIQ (List.forall_mem_cons.mpr ⟨qk_1214 l, fun _ h => absurd h List.not_mem_nil⟩) (by decide +kernel)
def kq_1216 : ek := (132, [.inr 2, .inl (4, 4)], [], [], [(some (.inl (0, 16)), [])], 0, 0)
/-- LoadsAhead count -/
theorem qk_1216 (l : Launch) : ek_ok l tQ iQ kq_1216 := ek_good_ok (sp := sQ) (K := []) (SP := []) (HS := []) (N := 0) (fuel := 22) hIQ (fun _ h => absurd h List.not_mem_nil) (by decide +kernel)
def kq_1217 : ek := (132, [.inr 2, .inl (5, 5)], [], [], [(some (.inl (0, 260)), [])], 0, 0)
/-- LoadsAhead count -/
theorem qk_1217 (l : Launch) : ek_ok l tQ iQ kq_1217 := ek_good_ok (sp := sQ) (K := []) (SP := []) (HS := []) (N := 0) (fuel := 20) hIQ (fun _ h => absurd h List.not_mem_nil) (by decide +kernel)
def kq_1218 : ek := (132, [.inr 2, .inl (6, 6)], [], [], [(some (.inl (0, 65535)), [])], 0, 0)
/-- LoadsAhead count -/
theorem qk_1218 (l : Launch) : ek_ok l tQ iQ kq_1218 := ek_good_ok (sp := sQ) (K := []) (SP := []) (HS := []) (N := 0) (fuel := 22) hIQ (fun _ h => absurd h List.not_mem_nil) (by decide +kernel)
def kq_1219 : ek := (132, [.inr 2, .inl (7, 7)], [], [], [(some (.inl (0, 9999)), [])], 0, 0)
/-- LoadsAhead count -/
theorem qk_1219 (l : Launch) : ek_ok l tQ iQ kq_1219 := ek_good_ok (sp := sQ) (K := []) (SP := []) (HS := []) (N := 0) (fuel := 20) hIQ (fun _ h => absurd h List.not_mem_nil) (by decide +kernel)
def kq_1220 : ek := (132, [.inr 2, .inl (8, 8)], [], [], [(some (.inl (0, 2147483647)), []), (some (.inl ((-2147483648), 2147483647)), [])], 1, 22)
/-- LoadsAhead count -/
theorem qk_1220 (l : Launch) : ek_ok l tQ iQ kq_1220 := ek_good_ok (sp := sQ) (K := [kq_1167]) (SP := []) (HS := []) (N := 0) (fuel := 22) hIQ (List.forall_mem_cons.mpr ⟨qk_1167 l, fun _ h => absurd h List.not_mem_nil⟩) (by decide +kernel)
def kq_1221 : ek := (132, [.inr 2, .inl (9, 9)], [], [], [(some (.inl (0, 15)), [])], 0, 0)
/-- LoadsAhead count -/
theorem qk_1221 (l : Launch) : ek_ok l tQ iQ kq_1221 := ek_good_ok (sp := sQ) (K := []) (SP := []) (HS := []) (N := 0) (fuel := 22) hIQ (fun _ h => absurd h List.not_mem_nil) (by decide +kernel)
def kq_1222 : ek := (132, [.inr 2, .inl (10, 10)], [], [], [(some (.inl (0, 16)), [])], 0, 0)
/-- LoadsAhead count -/
theorem qk_1222 (l : Launch) : ek_ok l tQ iQ kq_1222 := ek_good_ok (sp := sQ) (K := []) (SP := []) (HS := []) (N := 0) (fuel := 36) hIQ (fun _ h => absurd h List.not_mem_nil) (by decide +kernel)
def kq_1223 : ek := (134, [.inr 26], [], [], [(some (.inl ((-2147483648), 2147483647)), []), (some (.inl (0, 2147483647)), [])], 0, 0)
/-- LoadsAhead.State bytesNotZero -/
theorem qk_1223 (l : Launch) : ek_ok l tQ iQ kq_1223 := ek_good_ok (sp := sQ) (K := []) (SP := []) (HS := [((4, [some (.inr 26, none), some (.inl ((-2147483648), 2147483647), none), some (.inl (0, 64), none)], [], [], []), [(0, (0, 0, 0), 0), (1, (1, 2, 0), 64), (0, (0, 0, 0), 0)])]) (N := 3) (fuel := 32) hIQ (fun _ h => absurd h List.not_mem_nil) (by decide +kernel)
def kq_1224 : ek := (132, [.inr 2, .inl (11, 11)], [], [], [(some (.inl (0, 2147483647)), []), (some (.inl ((-2147483648), 2147483647)), [])], 1, 22)
/-- LoadsAhead count -/
theorem qk_1224 (l : Launch) : ek_ok l tQ iQ kq_1224 := ek_good_ok (sp := sQ) (K := [kq_1223]) (SP := []) (HS := []) (N := 0) (fuel := 22) hIQ (List.forall_mem_cons.mpr ⟨qk_1223 l, fun _ h => absurd h List.not_mem_nil⟩) (by decide +kernel)
def kq_1225 : ek := (132, [.inr 2, .inl (12, 2147483647)], [], [], [(some (.inl ((-1), (-1))), [])], 0, 0)
/-- LoadsAhead count -/
theorem qk_1225 (l : Launch) : ek_ok l tQ iQ kq_1225 := ek_good_ok (sp := sQ) (K := []) (SP := []) (HS := []) (N := 0) (fuel := 16) hIQ (fun _ h => absurd h List.not_mem_nil) (by decide +kernel)
def kq_1226 : ek := (239, [.inr 86, .inl ((-2147483648), (-1))], [], [], [(some (.inl ((-1), (-1))), [])], 0, 0)
/-- LoadsAheadModel count -/
theorem qk_1226 (l : Launch) : ek_ok l tQ iQ kq_1226 := ek_good_ok (sp := sQ) (K := []) (SP := []) (HS := []) (N := 0) (fuel := 16) hIQ (fun _ h => absurd h List.not_mem_nil) (by decide +kernel)
def kq_1227 : ek := (239, [.inr 86, .inl (0, 0)], [], [], [(some (.inl (0, 9999)), [])], 0, 0)
/-- LoadsAheadModel count -/
theorem qk_1227 (l : Launch) : ek_ok l tQ iQ kq_1227 := ek_good_ok (sp := sQ) (K := []) (SP := []) (HS := []) (N := 0) (fuel := 18) hIQ (fun _ h => absurd h List.not_mem_nil) (by decide +kernel)
def kq_1228 : ek := (239, [.inr 86, .inl (1, 1)], [], [], [(some (.inl (0, 20)), [])], 0, 0)
/-- LoadsAheadModel count -/
theorem qk_1228 (l : Launch) : ek_ok l tQ iQ kq_1228 := ek_good_ok (sp := sQ) (K := []) (SP := []) (HS := []) (N := 0) (fuel := 18) hIQ (fun _ h => absurd h List.not_mem_nil) (by decide +kernel)
def kq_1229 : ek := (240, [.inr 86, .inl (2, 2)], [], [], [(some (.inl ((-2147483648), 2147483647)), []), (some (.inl (0, 2147483647)), [])], 0, 0)
/-- LoadsAheadModel ofKind -/
theorem qk_1229 (l : Launch) : ek_ok l tQ iQ kq_1229 := ek_good_ok (sp := sQ) (K := []) (SP := []) (HS := [((4, [some (.inr 86, none), some (.inl (2, 2), none), some (.inl ((-2147483648), 2147483647), none), some (.inl (0, 20), none)], [], [], []), [(0, (0, 0, 0), 0), (1, (1, 3, 0), 20), (0, (0, 0, 0), 0)])]) (N := 3) (fuel := 42) hIQ (fun _ h => absurd h List.not_mem_nil) (by decide +kernel)
def kq_1230 : ek := (239, [.inr 86, .inl (2, 2)], [], [], [(some (.inl (0, 2147483647)), []), (some (.inl ((-2147483648), 2147483647)), [])], 1, 23)
/-- LoadsAheadModel count -/
theorem qk_1230 (l : Launch) : ek_ok l tQ iQ kq_1230 := ek_good_ok (sp := sQ) (K := [kq_1229]) (SP := []) (HS := []) (N := 0) (fuel := 20) hIQ (List.forall_mem_cons.mpr ⟨qk_1229 l, fun _ h => absurd h List.not_mem_nil⟩) (by decide +kernel)
def kq_1231 : ek := (240, [.inr 86, .inl (3, 3)], [], [], [(some (.inl ((-2147483648), 2147483647)), []), (some (.inl (0, 2147483647)), [])], 0, 0)
/-- LoadsAheadModel ofKind -/
theorem qk_1231 (l : Launch) : ek_ok l tQ iQ kq_1231 := ek_good_ok (sp := sQ) (K := []) (SP := []) (HS := [((4, [some (.inr 86, none), some (.inl (3, 3), none), some (.inl ((-2147483648), 2147483647), none), some (.inl (0, 20), none)], [], [], []), [(0, (0, 0, 0), 0), (1, (1, 3, 0), 20), (0, (0, 0, 0), 0)])]) (N := 3) (fuel := 42) hIQ (fun _ h => absurd h List.not_mem_nil) (by decide +kernel)
def kq_1232 : ek := (239, [.inr 86, .inl (3, 3)], [], [], [(some (.inl (0, 2147483647)), []), (some (.inl ((-2147483648), 2147483647)), [])], 1, 23)
/-- LoadsAheadModel count -/
theorem qk_1232 (l : Launch) : ek_ok l tQ iQ kq_1232 := ek_good_ok (sp := sQ) (K := [kq_1231]) (SP := []) (HS := []) (N := 0) (fuel := 20) hIQ (List.forall_mem_cons.mpr ⟨qk_1231 l, fun _ h => absurd h List.not_mem_nil⟩) (by decide +kernel)
def kq_1233 : ek := (239, [.inr 86, .inl (4, 4)], [], [], [(some (.inl (0, 16)), [])], 0, 0)
/-- LoadsAheadModel count -/
theorem qk_1233 (l : Launch) : ek_ok l tQ iQ kq_1233 := ek_good_ok (sp := sQ) (K := []) (SP := []) (HS := []) (N := 0) (fuel := 18) hIQ (fun _ h => absurd h List.not_mem_nil) (by decide +kernel)
def kq_1234 : ek := (239, [.inr 86, .inl (5, 5)], [], [], [(some (.inl (0, 260)), [])], 0, 0)
/-- LoadsAheadModel count -/
theorem qk_1234 (l : Launch) : ek_ok l tQ iQ kq_1234 := ek_good_ok (sp := sQ) (K := []) (SP := []) (HS := []) (N := 0) (fuel := 18) hIQ (fun _ h => absurd h List.not_mem_nil) (by decide +kernel)
def kq_1235 : ek := (239, [.inr 86, .inl (6, 6)], [], [], [(some (.inl (0, 65535)), [])], 0, 0)
/-- LoadsAheadModel count -/
theorem qk_1235 (l : Launch) : ek_ok l tQ iQ kq_1235 := ek_good_ok (sp := sQ) (K := []) (SP := []) (HS := []) (N := 0) (fuel := 18) hIQ (fun _ h => absurd h List.not_mem_nil) (by decide +kernel)
