def kq_1215 : ek := (238, [.inr 86, .inl (0, 19)], [], [], [(some (.inl (0, 255)), [])], 0, 0)
/-- LoadsAheadModel octet -/
theorem qk_1215 (l : Launch) : ek_ok l tQ iQ kq_1215 := ek_good_ok (sp := sQ) (K := []) (SP := []) (HS := []) (N := 0) (fuel := 22) hIQ (fun _ h => absurd h List.not_mem_nil) (by decide +kernel)
def kq_1216 : ek := (238, [.inr 86, .inl (0, 20)], [], [], [(some (.inl (0, 255)), [])], 0, 0)
/-- LoadsAheadModel octet -/
theorem qk_1216 (l : Launch) : ek_ok l tQ iQ kq_1216 := ek_good_ok (sp := sQ) (K := []) (SP := []) (HS := []) (N := 0) (fuel := 22) hIQ (fun _ h => absurd h List.not_mem_nil) (by decide +kernel)
def kq_1217 : ek := (137, [.inl (65, 2147483647), .inl (0, 0), .inl (64, 64)], [], [], [(some (.inl (0, 0)), [])], 0, 0)
/-- LoadsAheadModel in -/
theorem qk_1217 (l : Launch) : ek_ok l tQ iQ kq_1217 := ek_good_ok (sp := sQ) (K := []) (SP := []) (HS := []) (N := 0) (fuel := 24) hIQ (fun _ h => absurd h List.not_mem_nil) (by decide +kernel)
def kq_1218 : ek := (237, [.inr 86, .inl (65, 2147483647)], [], [], [(some (.inl ((-2), (-2))), [])], 1, 22)
/-- LoadsAheadModel check -/
theorem qk_1218 (l : Launch) : ek_ok l tQ iQ kq_1218 := ek_good_ok (sp := sQ) (K := [kq_1217]) (SP := [(4, [(2, [(-1), 64])])]) (HS := []) (N := 0) (fuel := 22) hIQ (List.forall_mem_cons.mpr ⟨qk_1217 l, fun _ h => absurd h List.not_mem_nil⟩) (by decide +kernel)
def kq_1219 : ek := (132, [.inr 2, .inl ((-2147483648), (-1))], [], [], [(some (.inl ((-1), (-1))), [])], 0, 0)
/-- LoadsAhead count -/
theorem qk_1219 (l : Launch) : ek_ok l tQ iQ kq_1219 := ek_good_ok (sp := sQ) (K := []) (SP := []) (HS := []) (N := 0) (fuel := 16) hIQ (fun _ h => absurd h List.not_mem_nil) (by decide +kernel)
def kq_1220 : ek := (132, [.inr 2, .inl (0, 0)], [], [], [(some (.inl (0, 9999)), [])], 0, 0)
/-- LoadsAhead count -/
theorem qk_1220 (l : Launch) : ek_ok l tQ iQ kq_1220 := ek_good_ok (sp := sQ) (K := []) (SP := []) (HS := []) (N := 0) (fuel := 22) hIQ (fun _ h => absurd h List.not_mem_nil) (by decide +kernel)
def kq_1221 : ek := (132, [.inr 2, .inl (1, 1)], [], [], [(some (.inl (0, 20)), [])], 0, 0)
/-- LoadsAhead count -/
theorem qk_1221 (l : Launch) : ek_ok l tQ iQ kq_1221 := ek_good_ok (sp := sQ) (K := []) (SP := []) (HS := []) (N := 0) (fuel := 22) hIQ (fun _ h => absurd h List.not_mem_nil) (by decide +kernel)
def kq_1222 : ek := (133, [.inr 6, .inl (2, 2)], [], [], [(some (.inl ((-2147483648), 2147483647)), []), (some (.inl (0, 2147483647)), [])], 0, 0)
/-- LoadsAhead.Program ofKind -/
theorem qk_1222 (l : Launch) : ek_ok l tQ iQ kq_1222 := ek_good_ok (sp := sQ) (K := []) (SP := []) (HS := [((4, [some (.inr 6, none), some (.inl (2, 2), none), some (.inl ((-2147483648), 2147483647), none), some (.inl (0, 20), none)], [], [], []), [(0, (0, 0, 0), 0), (1, (1, 3, 0), 20), (0, (0, 0, 0), 0)])]) (N := 3) (fuel := 36) hIQ (fun _ h => absurd h List.not_mem_nil) (by decide +kernel)
def kq_1223 : ek := (132, [.inr 2, .inl (2, 2)], [], [], [(some (.inl (0, 2147483647)), []), (some (.inl ((-2147483648), 2147483647)), [])], 1, 23)
/-- LoadsAhead count -/
theorem qk_1223 (l : Launch) : ek_ok l tQ iQ kq_1223 := ek_good_ok (sp := sQ) (K := [kq_1222]) (SP := []) (HS := []) (N := 0) (fuel := 24) hIQ (List.forall_mem_cons.mpr ⟨qk_1222 l, fun _ h => absurd h List.not_mem_nil⟩) (by decide +kernel)
def kq_1224 : ek := (133, [.inr 6, .inl (3, 3)], [], [], [(some (.inl ((-2147483648), 2147483647)), []), (some (.inl (0, 2147483647)), [])], 0, 0)
/-- LoadsAhead.Program ofKind -/
theorem qk_1224 (l : Launch) : ek_ok l tQ iQ kq_1224 := ek_good_ok (sp := sQ) (K := []) (SP := []) (HS := [((4, [some (.inr 6, none), some (.inl (3, 3), none), some (.inl ((-2147483648), 2147483647), none), some (.inl (0, 20), none)], [], [], []), [(0, (0, 0, 0), 0), (1, (1, 3, 0), 20), (0, (0, 0, 0), 0)])]) (N := 3) (fuel := 36) hIQ (fun _ h => absurd h List.not_mem_nil) (by decide +kernel)
def kq_1225 : ek := (132, [.inr 2, .inl (3, 3)], [], [], [(some (.inl (0, 2147483647)), []), (some (.inl ((-2147483648), 2147483647)), [])], 1, 23)
/-- LoadsAhead count -/
theorem qk_1225 (l : Launch) : ek_ok l tQ iQ kq_1225 := ek_good_ok (sp := sQ) (K := [kq_1224]) (SP := []) (HS := []) (N := 0) (fuel := 24) hIQ (List.forall_mem_cons.mpr ⟨qk_1224 l, fun _ h => absurd h List.not_mem_nil⟩) (by decide +kernel)
def kq_1226 : ek := (132, [.inr 2, .inl (4, 4)], [], [], [(some (.inl (0, 16)), [])], 0, 0)
/-- LoadsAhead count -/
theorem qk_1226 (l : Launch) : ek_ok l tQ iQ kq_1226 := ek_good_ok (sp := sQ) (K := []) (SP := []) (HS := []) (N := 0) (fuel := 22) hIQ (fun _ h => absurd h List.not_mem_nil) (by decide +kernel)
def kq_1227 : ek := (132, [.inr 2, .inl (5, 5)], [], [], [(some (.inl (0, 260)), [])], 0, 0)
/-- LoadsAhead count -/
theorem qk_1227 (l : Launch) : ek_ok l tQ iQ kq_1227 := ek_good_ok (sp := sQ) (K := []) (SP := []) (HS := []) (N := 0) (fuel := 20) hIQ (fun _ h => absurd h List.not_mem_nil) (by decide +kernel)
def kq_1228 : ek := (132, [.inr 2, .inl (6, 6)], [], [], [(some (.inl (0, 65535)), [])], 0, 0)
/-- LoadsAhead count -/
theorem qk_1228 (l : Launch) : ek_ok l tQ iQ kq_1228 := ek_good_ok (sp := sQ) (K := []) (SP := []) (HS := []) (N := 0) (fuel := 22) hIQ (fun _ h => absurd h List.not_mem_nil) (by decide +kernel)
def kq_1229 : ek := (132, [.inr 2, .inl (7, 7)], [], [], [(some (.inl (0, 9999)), [])], 0, 0)
/-- LoadsAhead count -/
theorem qk_1229 (l : Launch) : ek_ok l tQ iQ kq_1229 := ek_good_ok (sp := sQ) (K := []) (SP := []) (HS := []) (N := 0) (fuel := 20) hIQ (fun _ h => absurd h List.not_mem_nil) (by decide +kernel)
def kq_1230 : ek := (132, [.inr 2, .inl (8, 8)], [], [], [(some (.inl (0, 2147483647)), []), (some (.inl ((-2147483648), 2147483647)), [])], 1, 22)
/-- LoadsAhead count -/
theorem qk_1230 (l : Launch) : ek_ok l tQ iQ kq_1230 := ek_good_ok (sp := sQ) (K := [kq_1177]) (SP := []) (HS := []) (N := 0) (fuel := 22) hIQ (List.forall_mem_cons.mpr ⟨qk_1177 l, fun _ h => absurd h List.not_mem_nil⟩) (by decide +kernel)
def kq_1231 : ek := (132, [.inr 2, .inl (9, 9)], [], [], [(some (.inl (0, 15)), [])], 0, 0)
/-- LoadsAhead count -/
theorem qk_1231 (l : Launch) : ek_ok l tQ iQ kq_1231 := ek_good_ok (sp := sQ) (K := []) (SP := []) (HS := []) (N := 0) (fuel := 22) hIQ (fun _ h => absurd h List.not_mem_nil) (by decide +kernel)
def kq_1232 : ek := (132, [.inr 2, .inl (10, 10)], [], [], [(some (.inl (0, 16)), [])], 0, 0)
/-- LoadsAhead count -/
theorem qk_1232 (l : Launch) : ek_ok l tQ iQ kq_1232 := ek_good_ok (sp := sQ) (K := []) (SP := []) (HS := []) (N := 0) (fuel := 36) hIQ (fun _ h => absurd h List.not_mem_nil) (by decide +kernel)
def kq_1233 : ek := (134, [.inr 26], [], [], [(some (.inl ((-2147483648), 2147483647)), []), (some (.inl (0, 2147483647)), [])], 0, 0)
/-- LoadsAhead.State bytesNotZero -/
theorem qk_1233 (l : Launch) : ek_ok l tQ iQ kq_1233 := ek_good_ok (sp := sQ) (K := []) (SP := []) (HS := [((4, [some (.inr 26, none), some (.inl ((-2147483648), 2147483647), none), some (.inl (0, 64), none)], [], [], []), [(0, (0, 0, 0), 0), (1, (1, 2, 0), 64), (0, (0, 0, 0), 0)])]) (N := 3) (fuel := 32) hIQ (fun _ h => absurd h List.not_mem_nil) (by decide +kernel)
def kq_1234 : ek := (132, [.inr 2, .inl (11, 11)], [], [], [(some (.inl (0, 2147483647)), []), (some (.inl ((-2147483648), 2147483647)), [])], 1, 22)
/-- LoadsAhead count -/
theorem qk_1234 (l : Launch) : ek_ok l tQ iQ kq_1234 := ek_good_ok (sp := sQ) (K := [kq_1233]) (SP := []) (HS := []) (N := 0) (fuel := 22) hIQ (List.forall_mem_cons.mpr ⟨qk_1233 l, fun _ h => absurd h List.not_mem_nil⟩) (by decide +kernel)
def kq_1235 : ek := (132, [.inr 2, .inl (12, 2147483647)], [], [], [(some (.inl ((-1), (-1))), [])], 0, 0)
/-- LoadsAhead count -/
theorem qk_1235 (l : Launch) : ek_ok l tQ iQ kq_1235 := ek_good_ok (sp := sQ) (K := []) (SP := []) (HS := []) (N := 0) (fuel := 16) hIQ (fun _ h => absurd h List.not_mem_nil) (by decide +kernel)
def kq_1236 : ek := (239, [.inr 86, .inl ((-2147483648), (-1))], [], [], [(some (.inl ((-1), (-1))), [])], 0, 0)
/-- LoadsAheadModel count -/
theorem qk_1236 (l : Launch) : ek_ok l tQ iQ kq_1236 := ek_good_ok (sp := sQ) (K := []) (SP := []) (HS := []) (N := 0) (fuel := 16) hIQ (fun _ h => absurd h List.not_mem_nil) (by decide +kernel)
def kq_1237 : ek := (239, [.inr 86, .inl (0, 0)], [], [], [(some (.inl (0, 9999)), [])], 0, 0)
/-- LoadsAheadModel count -/
theorem qk_1237 (l : Launch) : ek_ok l tQ iQ kq_1237 := ek_good_ok (sp := sQ) (K := []) (SP := []) (HS := []) (N := 0) (fuel := 18) hIQ (fun _ h => absurd h List.not_mem_nil) (by decide +kernel)
def kq_1238 : ek := (239, [.inr 86, .inl (1, 1)], [], [], [(some (.inl (0, 20)), [])], 0, 0)
/-- LoadsAheadModel count -/
theorem qk_1238 (l : Launch) : ek_ok l tQ iQ kq_1238 := ek_good_ok (sp := sQ) (K := []) (SP := []) (HS := []) (N := 0) (fuel := 18) hIQ (fun _ h => absurd h List.not_mem_nil) (by decide +kernel)
def kq_1239 : ek := (240, [.inr 86, .inl (2, 2)], [], [], [(some (.inl ((-2147483648), 2147483647)), []), (some (.inl (0, 2147483647)), [])], 0, 0)
/-- LoadsAheadModel ofKind -/
theorem qk_1239 (l : Launch) : ek_ok l tQ iQ kq_1239 := ek_good_ok (sp := sQ) (K := []) (SP := []) (HS := [((4, [some (.inr 86, none), some (.inl (2, 2), none), some (.inl ((-2147483648), 2147483647), none), some (.inl (0, 20), none)], [], [], []), [(0, (0, 0, 0), 0), (1, (1, 3, 0), 20), (0, (0, 0, 0), 0)])]) (N := 3) (fuel := 42) hIQ (fun _ h => absurd h List.not_mem_nil) (by decide +kernel)
def kq_1240 : ek := (239, [.inr 86, .inl (2, 2)], [], [], [(some (.inl (0, 2147483647)), []), (some (.inl ((-2147483648), 2147483647)), [])], 1, 23)
/-- LoadsAheadModel count -/
theorem qk_1240 (l : Launch) : ek_ok l tQ iQ kq_1240 := ek_good_ok (sp := sQ) (K := [kq_1239]) (SP := []) (HS := []) (N := 0) (fuel := 20) hIQ (List.forall_mem_cons.mpr ⟨qk_1239 l, fun _ h => absurd h List.not_mem_nil⟩) (by decide +kernel)
def kq_1241 : ek := (240, [.inr 86, .inl (3, 3)], [], [], [(some (.inl ((-2147483648), 2147483647)), []), (some (.inl (0, 2147483647)), [])], 0, 0)
/-- LoadsAheadModel ofKind -/
theorem qk_1241 (l : Launch) : ek_ok l tQ iQ kq_1241 := ek_good_ok (sp := sQ) (K := []) (SP := []) (HS := [((4, [some (.inr 86, none), some (.inl (3, 3), none), some (.inl ((-2147483648), 2147483647), none), some (.inl (0, 20), none)], [], [], []), [(0, (0, 0, 0), 0), (1, (1, 3, 0), 20), (0, (0, 0, 0), 0)])]) (N := 3) (fuel := 42) hIQ (fun _ h => absurd h List.not_mem_nil) (by decide +kernel)
def kq_1242 : ek := (239, [.inr 86, .inl (3, 3)], [], [], [(some (.inl (0, 2147483647)), []), (some (.inl ((-2147483648), 2147483647)), [])], 1, 23)
/-- LoadsAheadModel count -/
theorem qk_1242 (l : Launch) : ek_ok l tQ iQ kq_1242 := ek_good_ok (sp := sQ) (K := [kq_1241]) (SP := []) (HS := []) (N := 0) (fuel := 20) hIQ (List.forall_mem_cons.mpr ⟨qk_1241 l, fun _ h => absurd h List.not_mem_nil⟩) (by decide +kernel)
def kq_1243 : ek := (239, [.inr 86, .inl (4, 4)], [], [], [(some (.inl (0, 16)), [])], 0, 0)
/-- LoadsAheadModel count -/
theorem qk_1243 (l : Launch) : ek_ok l tQ iQ kq_1243 := ek_good_ok (sp := sQ) (K := []) (SP := []) (HS := []) (N := 0) (fuel := 18) hIQ (fun _ h => absurd h List.not_mem_nil) (by decide +kernel)
def kq_1244 : ek := (239, [.inr 86, .inl (5, 5)], [], [], [(some (.inl (0, 260)), [])], 0, 0)
/-- LoadsAheadModel count -/
theorem qk_1244 (l : Launch) : ek_ok l tQ iQ kq_1244 := ek_good_ok (sp := sQ) (K := []) (SP := []) (HS := []) (N := 0) (fuel := 18) hIQ (fun _ h => absurd h List.not_mem_nil) (by decide +kernel)
def kq_1245 : ek := (239, [.inr 86, .inl (6, 6)], [], [], [(some (.inl (0, 65535)), [])], 0, 0)
/-- LoadsAheadModel count -/
theorem qk_1245 (l : Launch) : ek_ok l tQ iQ kq_1245 := ek_good_ok (sp := sQ) (K := []) (SP := []) (HS := []) (N := 0) (fuel := 18) hIQ (fun _ h => absurd h List.not_mem_nil) (by decide +kernel)
def kq_1246 : ek := (239, [.inr 86, .inl (7, 7)], [], [], [(some (.inl (0, 9999)), [])], 0, 0)
/-- LoadsAheadModel count -/
theorem qk_1246 (l : Launch) : ek_ok l tQ iQ kq_1246 := ek_good_ok (sp := sQ) (K := []) (SP := []) (HS := []) (N := 0) (fuel := 18) hIQ (fun _ h => absurd h List.not_mem_nil) (by decide +kernel)
def kq_1247 : ek := (239, [.inr 86, .inl (8, 8)], [], [], [(some (.inl (0, 2147483647)), []), (some (.inl ((-2147483648), 2147483647)), [])], 1, 22)
/-- LoadsAheadModel count -/
theorem qk_1247 (l : Launch) : ek_ok l tQ iQ kq_1247 := ek_good_ok (sp := sQ) (K := [kq_1179]) (SP := []) (HS := []) (N := 0) (fuel := 18) hIQ (List.forall_mem_cons.mpr ⟨qk_1179 l, fun _ h => absurd h List.not_mem_nil⟩) (by decide +kernel)
def kq_1248 : ek := (239, [.inr 86, .inl (9, 9)], [], [], [(some (.inl (0, 15)), [])], 0, 0)
/-- LoadsAheadModel count -/
theorem qk_1248 (l : Launch) : ek_ok l tQ iQ kq_1248 := ek_good_ok (sp := sQ) (K := []) (SP := []) (HS := []) (N := 0) (fuel := 18) hIQ (fun _ h => absurd h List.not_mem_nil) (by decide +kernel)
def kq_1249 : ek := (239, [.inr 86, .inl (10, 10)], [], [], [(some (.inl (0, 16)), [])], 0, 0)
/-- LoadsAheadModel count -/
theorem qk_1249 (l : Launch) : ek_ok l tQ iQ kq_1249 := ek_good_ok (sp := sQ) (K := []) (SP := []) (HS := []) (N := 0) (fuel := 32) hIQ (fun _ h => absurd h List.not_mem_nil) (by decide +kernel)
def kq_1250 : ek := (241, [.inr 86], [], [], [(some (.inl ((-2147483648), 2147483647)), []), (some (.inl (0, 2147483647)), [])], 0, 0)
/-- LoadsAheadModel bytesThere -/
theorem qk_1250 (l : Launch) : ek_ok l tQ iQ kq_1250 := ek_good_ok (sp := sQ) (K := []) (SP := []) (HS := [((4, [some (.inr 86, none), some (.inl ((-2147483648), 2147483647), none), some (.inl (0, 64), none)], [], [], []), [(0, (0, 0, 0), 0), (1, (1, 2, 0), 64), (0, (0, 0, 0), 0)])]) (N := 3) (fuel := 38) hIQ (fun _ h => absurd h List.not_mem_nil) (by decide +kernel)
def kq_1251 : ek := (239, [.inr 86, .inl (11, 11)], [], [], [(some (.inl (0, 2147483647)), []), (some (.inl ((-2147483648), 2147483647)), [])], 1, 22)
/-- LoadsAheadModel count -/
theorem qk_1251 (l : Launch) : ek_ok l tQ iQ kq_1251 := ek_good_ok (sp := sQ) (K := [kq_1250]) (SP := []) (HS := []) (N := 0) (fuel := 18) hIQ (List.forall_mem_cons.mpr ⟨qk_1250 l, fun _ h => absurd h List.not_mem_nil⟩) (by decide +kernel)
def kq_1252 : ek := (239, [.inr 86, .inl (12, 2147483647)], [], [], [(some (.inl ((-1), (-1))), [])], 0, 0)
/-- LoadsAheadModel count -/
theorem qk_1252 (l : Launch) : ek_ok l tQ iQ kq_1252 := ek_good_ok (sp := sQ) (K := []) (SP := []) (HS := []) (N := 0) (fuel := 16) hIQ (fun _ h => absurd h List.not_mem_nil) (by decide +kernel)
