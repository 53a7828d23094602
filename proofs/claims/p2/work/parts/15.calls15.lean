def kq_1102 : ek := (225, [.inl (0, 0), .inl ((-2147483648), 2147483647)], [], [], [(some (.inl (0, 2147483647)), [])], 0, 0)
/-- LoadsAheadModel max -/
theorem qk_1102 (l : Launch) : ek_ok l tQ iQ kq_1102 := ek_good_ok (sp := sQ) (K := []) (SP := []) (HS := []) (N := 0) (fuel := 20) hIQ (fun _ h => absurd h List.not_mem_nil) (by decide +kernel)
def kq_1103 : ek := (172, [.inr 86, .inl (1, 1), .inl (0, 7)], [], [], [(some (.inl (1, 1)), []), (some (.inl (0, 0)), [])], 0, 0)
/-- LoadsAheadModel doesRead -/
theorem qk_1103 (l : Launch) : ek_ok l tQ iQ kq_1103 := ek_good_ok (sp := sQ) (K := []) (SP := []) (HS := []) (N := 0) (fuel := 48) hIQ (fun _ h => absurd h List.not_mem_nil) (by decide +kernel)
def kq_1104 : ek := (173, [.inr 86, .inl (1, 1), .inl (0, 7)], [], [], [(some (.inl (0, 0)), []), (some (.inl ((-1), (-1))), [])], 1, 22)
/-- LoadsAheadModel giverOf -/
theorem qk_1104 (l : Launch) : ek_ok l tQ iQ kq_1104 := ek_good_ok (sp := sQ) (K := [kq_473]) (SP := []) (HS := [((4, [some (.inr 86, none), some (.inl (1, 1), none), some (.inl (0, 7), none), some (.inl ((-1), 0), none)], [], [], []), [(0, (0, 0, 0), 0), (2, (1, 3, 0), (-1)), (0, (0, 0, 0), 0)])]) (N := 3) (fuel := 28) hIQ (List.forall_mem_cons.mpr ⟨qk_473 l, fun _ h => absurd h List.not_mem_nil⟩) (by decide +kernel)
def kq_1105 : ek := (195, [.inr 86, .inl (1, 1), .inl (0, 0)], [], [], [(some (.inl (1, 1)), []), (some (.inl (0, 0)), [])], 2, 45)
/-- LoadsAheadModel hasSource -/
theorem qk_1105 (l : Launch) : ek_ok l tQ iQ kq_1105 := ek_good_ok (sp := sQ) (K := [kq_1103, kq_1104]) (SP := []) (HS := [((2, [some (.inr 86, none), some (.inl (1, 1), none), some (.inl (0, 0), none), some (.inl (0, 8), none)], [], [], []), [(0, (0, 0, 0), 0), (1, (1, 3, 0), 8), (0, (0, 0, 0), 0)])]) (N := 3) (fuel := 42) hIQ (List.forall_mem_cons.mpr ⟨qk_1103 l, List.forall_mem_cons.mpr ⟨qk_1104 l, fun _ h => absurd h List.not_mem_nil⟩⟩) (by decide +kernel)
def kq_1106 : ek := (172, [.inr 86, .inl (1, 1), .inl (0, 0)], [], [], [(some (.inl (1, 1)), []), (some (.inl (0, 0)), [])], 0, 0)
/-- LoadsAheadModel doesRead -/
theorem qk_1106 (l : Launch) : ek_ok l tQ iQ kq_1106 := ek_good_ok (sp := sQ) (K := []) (SP := []) (HS := []) (N := 0) (fuel := 48) hIQ (fun _ h => absurd h List.not_mem_nil) (by decide +kernel)
def kq_1107 : ek := (172, [.inr 86, .inl (1, 1), .inl (0, 1)], [], [], [(some (.inl (1, 1)), []), (some (.inl (0, 0)), [])], 0, 0)
/-- LoadsAheadModel doesRead -/
theorem qk_1107 (l : Launch) : ek_ok l tQ iQ kq_1107 := ek_good_ok (sp := sQ) (K := []) (SP := []) (HS := []) (N := 0) (fuel := 48) hIQ (fun _ h => absurd h List.not_mem_nil) (by decide +kernel)
def kq_1108 : ek := (172, [.inr 86, .inl (1, 1), .inl (0, 3)], [], [], [(some (.inl (1, 1)), []), (some (.inl (0, 0)), [])], 0, 0)
/-- LoadsAheadModel doesRead -/
theorem qk_1108 (l : Launch) : ek_ok l tQ iQ kq_1108 := ek_good_ok (sp := sQ) (K := []) (SP := []) (HS := []) (N := 0) (fuel := 48) hIQ (fun _ h => absurd h List.not_mem_nil) (by decide +kernel)
def kq_1109 : ek := (173, [.inr 86, .inl (1, 1), .inl (0, 3)], [], [], [(some (.inl (0, 0)), []), (some (.inl ((-1), (-1))), [])], 1, 22)
/-- LoadsAheadModel giverOf -/
theorem qk_1109 (l : Launch) : ek_ok l tQ iQ kq_1109 := ek_good_ok (sp := sQ) (K := [kq_537]) (SP := []) (HS := [((4, [some (.inr 86, none), some (.inl (1, 1), none), some (.inl (0, 3), none), some (.inl ((-1), 0), none)], [], [], []), [(0, (0, 0, 0), 0), (2, (1, 3, 0), (-1)), (0, (0, 0, 0), 0)])]) (N := 3) (fuel := 28) hIQ (List.forall_mem_cons.mpr ⟨qk_537 l, fun _ h => absurd h List.not_mem_nil⟩) (by decide +kernel)
def kq_1110 : ek := (173, [.inr 86, .inl (1, 1), .inl (0, 1)], [], [], [(some (.inl (0, 0)), []), (some (.inl ((-1), (-1))), [])], 1, 22)
/-- LoadsAheadModel giverOf -/
theorem qk_1110 (l : Launch) : ek_ok l tQ iQ kq_1110 := ek_good_ok (sp := sQ) (K := [kq_539]) (SP := []) (HS := [((4, [some (.inr 86, none), some (.inl (1, 1), none), some (.inl (0, 1), none), some (.inl ((-1), 0), none)], [], [], []), [(0, (0, 0, 0), 0), (2, (1, 3, 0), (-1)), (0, (0, 0, 0), 0)])]) (N := 3) (fuel := 28) hIQ (List.forall_mem_cons.mpr ⟨qk_539 l, fun _ h => absurd h List.not_mem_nil⟩) (by decide +kernel)
def kq_1111 : ek := (173, [.inr 86, .inl (1, 1), .inl (0, 0)], [], [], [(some (.inl (0, 0)), []), (some (.inl ((-1), (-1))), [])], 1, 22)
/-- LoadsAheadModel giverOf -/
theorem qk_1111 (l : Launch) : ek_ok l tQ iQ kq_1111 := ek_good_ok (sp := sQ) (K := [kq_541]) (SP := []) (HS := [((4, [some (.inr 86, none), some (.inl (1, 1), none), some (.inl (0, 0), none), some (.inl ((-1), 0), none)], [], [], []), [(0, (0, 0, 0), 0), (2, (1, 3, 0), (-1)), (0, (0, 0, 0), 0)])]) (N := 3) (fuel := 28) hIQ (List.forall_mem_cons.mpr ⟨qk_541 l, fun _ h => absurd h List.not_mem_nil⟩) (by decide +kernel)
def kq_1112 : ek := (195, [.inr 86, .inl (0, 3), .inl (0, 1)], [], [], [(some (.inl (1, 1)), []), (some (.inl (0, 0)), [])], 2, 45)
/-- LoadsAheadModel hasSource -/
theorem qk_1112 (l : Launch) : ek_ok l tQ iQ kq_1112 := ek_good_ok (sp := sQ) (K := [kq_545, kq_487]) (SP := []) (HS := [((2, [some (.inr 86, none), some (.inl (0, 3), none), some (.inl (0, 1), none), some (.inl (0, 8), none)], [], [], []), [(0, (0, 0, 0), 0), (1, (1, 3, 0), 8), (0, (0, 0, 0), 0)])]) (N := 3) (fuel := 42) hIQ (List.forall_mem_cons.mpr ⟨qk_545 l, List.forall_mem_cons.mpr ⟨qk_487 l, fun _ h => absurd h List.not_mem_nil⟩⟩) (by decide +kernel)
def kq_1113 : ek := (195, [.inr 86, .inl (0, 3), .inl (0, 3)], [], [], [(some (.inl (1, 1)), []), (some (.inl (0, 0)), [])], 2, 45)
/-- LoadsAheadModel hasSource -/
theorem qk_1113 (l : Launch) : ek_ok l tQ iQ kq_1113 := ek_good_ok (sp := sQ) (K := [kq_545, kq_487]) (SP := []) (HS := [((2, [some (.inr 86, none), some (.inl (0, 3), none), some (.inl (0, 3), none), some (.inl (0, 8), none)], [], [], []), [(0, (0, 0, 0), 0), (1, (1, 3, 0), 8), (0, (0, 0, 0), 0)])]) (N := 3) (fuel := 42) hIQ (List.forall_mem_cons.mpr ⟨qk_545 l, List.forall_mem_cons.mpr ⟨qk_487 l, fun _ h => absurd h List.not_mem_nil⟩⟩) (by decide +kernel)
def kq_1114 : ek := (195, [.inr 86, .inl (0, 7), .inl (0, 3)], [], [], [(some (.inl (1, 1)), []), (some (.inl (0, 0)), [])], 2, 45)
/-- LoadsAheadModel hasSource -/
theorem qk_1114 (l : Launch) : ek_ok l tQ iQ kq_1114 := ek_good_ok (sp := sQ) (K := [kq_558, kq_499]) (SP := []) (HS := [((2, [some (.inr 86, none), some (.inl (0, 7), none), some (.inl (0, 3), none), some (.inl (0, 8), none)], [], [], []), [(0, (0, 0, 0), 0), (1, (1, 3, 0), 8), (0, (0, 0, 0), 0)])]) (N := 3) (fuel := 42) hIQ (List.forall_mem_cons.mpr ⟨qk_558 l, List.forall_mem_cons.mpr ⟨qk_499 l, fun _ h => absurd h List.not_mem_nil⟩⟩) (by decide +kernel)
def kq_1115 : ek := (195, [.inr 86, .inl (0, 7), .inl (0, 7)], [], [], [(some (.inl (1, 1)), []), (some (.inl (0, 0)), [])], 2, 45)
/-- LoadsAheadModel hasSource -/
theorem qk_1115 (l : Launch) : ek_ok l tQ iQ kq_1115 := ek_good_ok (sp := sQ) (K := [kq_558, kq_499]) (SP := []) (HS := [((2, [some (.inr 86, none), some (.inl (0, 7), none), some (.inl (0, 7), none), some (.inl (0, 8), none)], [], [], []), [(0, (0, 0, 0), 0), (1, (1, 3, 0), 8), (0, (0, 0, 0), 0)])]) (N := 3) (fuel := 42) hIQ (List.forall_mem_cons.mpr ⟨qk_558 l, List.forall_mem_cons.mpr ⟨qk_499 l, fun _ h => absurd h List.not_mem_nil⟩⟩) (by decide +kernel)
def kq_1116 : ek := (195, [.inr 86, .inl (0, 15), .inl (0, 7)], [], [], [(some (.inl (1, 1)), []), (some (.inl (0, 0)), [])], 2, 45)
/-- LoadsAheadModel hasSource -/
theorem qk_1116 (l : Launch) : ek_ok l tQ iQ kq_1116 := ek_good_ok (sp := sQ) (K := [kq_571, kq_510]) (SP := []) (HS := [((2, [some (.inr 86, none), some (.inl (0, 15), none), some (.inl (0, 7), none), some (.inl (0, 8), none)], [], [], []), [(0, (0, 0, 0), 0), (1, (1, 3, 0), 8), (0, (0, 0, 0), 0)])]) (N := 3) (fuel := 42) hIQ (List.forall_mem_cons.mpr ⟨qk_571 l, List.forall_mem_cons.mpr ⟨qk_510 l, fun _ h => absurd h List.not_mem_nil⟩⟩) (by decide +kernel)
def kq_1117 : ek := (195, [.inr 86, .inl (0, 15), .inl (0, 15)], [], [], [(some (.inl (1, 1)), []), (some (.inl (0, 0)), [])], 2, 45)
/-- LoadsAheadModel hasSource -/
theorem qk_1117 (l : Launch) : ek_ok l tQ iQ kq_1117 := ek_good_ok (sp := sQ) (K := [kq_571, kq_510]) (SP := []) (HS := [((2, [some (.inr 86, none), some (.inl (0, 15), none), some (.inl (0, 15), none), some (.inl (0, 8), none)], [], [], []), [(0, (0, 0, 0), 0), (1, (1, 3, 0), 8), (0, (0, 0, 0), 0)])]) (N := 3) (fuel := 42) hIQ (List.forall_mem_cons.mpr ⟨qk_571 l, List.forall_mem_cons.mpr ⟨qk_510 l, fun _ h => absurd h List.not_mem_nil⟩⟩) (by decide +kernel)
def kq_1118 : ek := (195, [.inr 86, .inl (0, 19), .inl (0, 15)], [], [], [(some (.inl (1, 1)), []), (some (.inl (0, 0)), [])], 2, 45)
/-- LoadsAheadModel hasSource -/
theorem qk_1118 (l : Launch) : ek_ok l tQ iQ kq_1118 := ek_good_ok (sp := sQ) (K := [kq_431, kq_418]) (SP := []) (HS := [((2, [some (.inr 86, none), some (.inl (0, 19), none), some (.inl (0, 15), none), some (.inl (0, 8), none)], [], [], []), [(0, (0, 0, 0), 0), (1, (1, 3, 0), 8), (0, (0, 0, 0), 0)])]) (N := 3) (fuel := 42) hIQ (List.forall_mem_cons.mpr ⟨qk_431 l, List.forall_mem_cons.mpr ⟨qk_418 l, fun _ h => absurd h List.not_mem_nil⟩⟩) (by decide +kernel)
def kq_1119 : ek := (70, [.inl ((-2147483648), 2147483647), .inl (0, 4), .inl ((-2147483648), 2147483647)], [], [], [(some (.inl (1, 1)), []), (some (.inl (0, 0)), [])], 0, 0)
/-- LoadsAhead covers -/
theorem qk_1119 (l : Launch) : ek_ok l tQ iQ kq_1119 := ek_good_ok (sp := sQ) (K := []) (SP := []) (HS := []) (N := 0) (fuel := 28) hIQ (fun _ h => absurd h List.not_mem_nil) (by decide +kernel)
def kq_1120 : ek := (122, [.inr 67, .inr 6, .inl (0, 19), .inl (0, 19)], [], [], [(some (.inl (0, 0)), []), (some (.inl (1, 1)), [])], 1, 22)
/-- LoadsAhead.Plain meet -/
theorem qk_1120 (l : Launch) : ek_ok l tQ iQ kq_1120 := ek_good_ok (sp := sQ) (K := [kq_1119]) (SP := []) (HS := []) (N := 0) (fuel := 70) hIQ (List.forall_mem_cons.mpr ⟨qk_1119 l, fun _ h => absurd h List.not_mem_nil⟩) (by decide +kernel)
def kq_1121 : ek := (121, [.inr 67, .inr 6], [], [], [(some (.inl ((-2147483648), 2147483647)), []), (some (.inl (0, 0)), [((2, 4, 11), (0, 1), none)])], 2, 45)
/-- LoadsAhead.Plain sharedBytes -/
theorem qk_1121 (l : Launch) : ek_ok l tQ iQ kq_1121 := ek_good_ok (sp := sQ) (K := [kq_1120]) (SP := []) (HS := [((4, [some (.inr 67, none), some (.inr 6, none), some (.inl ((-2147483648), 2147483647), none), some (.inl (0, 20), none), none], [], [], []), [(0, (0, 0, 0), 0), (1, (1, 2, 0), 2147483647), (0, (0, 0, 0), 0), (1, (1, 3, 0), 20), (0, (0, 0, 0), 1), (0, (0, 0, 0), 0), (0, (0, 0, 0), 0)]), ((15, [some (.inr 67, none), some (.inr 6, none), some (.inl ((-2147483648), 2147483647), none), some (.inl (0, 19), none), some (.inl (0, 19), none)], [], [], []), [(0, (0, 0, 0), 0), (1, (1, 2, 0), 2147483647), (0, (0, 0, 0), 0), (1, (1, 3, 0), 20), (0, (0, 0, 0), 0), (1, (1, 4, 0), 19), (0, (0, 0, 0), 0)])]) (N := 7) (fuel := 58) hIQ (List.forall_mem_cons.mpr ⟨qk_1120 l, fun _ h => absurd h List.not_mem_nil⟩) (by decide +kernel)
def kq_1122 : ek := (120, [.inr 2], [], [(66, 3), (66, 4), (66, 5), (67, 999), (68, 999), (69, 999), (70, 999)], [(some (.inl (0, 0)), [((2, 4, 11), (0, 1), none)]), (some (.inl ((-2147483648), 2147483647)), [])], 4, 132)
/-- LoadsAhead mix -/
theorem qk_1122 (l : Launch) : ek_ok l tQ iQ kq_1122 := ek_good_ok (sp := sQ) (K := [kq_1021, kq_1121]) (SP := []) (HS := []) (N := 0) (fuel := 40) hIQ (List.forall_mem_cons.mpr ⟨qk_1021 l, List.forall_mem_cons.mpr ⟨qk_1121 l, fun _ h => absurd h List.not_mem_nil⟩⟩) (by decide +kernel)
def kq_1123 : ek := (122, [.inr 67, .inr 6, .inl (1, 1), .inl (0, 0)], [], [], [(some (.inl (0, 0)), []), (some (.inl (1, 1)), [])], 1, 22)
/-- LoadsAhead.Plain meet -/
theorem qk_1123 (l : Launch) : ek_ok l tQ iQ kq_1123 := ek_good_ok (sp := sQ) (K := [kq_1119]) (SP := []) (HS := []) (N := 0) (fuel := 70) hIQ (List.forall_mem_cons.mpr ⟨qk_1119 l, fun _ h => absurd h List.not_mem_nil⟩) (by decide +kernel)
def kq_1124 : ek := (122, [.inr 67, .inr 6, .inl (0, 3), .inl (0, 1)], [], [], [(some (.inl (0, 0)), []), (some (.inl (1, 1)), [])], 1, 22)
/-- LoadsAhead.Plain meet -/
theorem qk_1124 (l : Launch) : ek_ok l tQ iQ kq_1124 := ek_good_ok (sp := sQ) (K := [kq_1119]) (SP := []) (HS := []) (N := 0) (fuel := 70) hIQ (List.forall_mem_cons.mpr ⟨qk_1119 l, fun _ h => absurd h List.not_mem_nil⟩) (by decide +kernel)
def kq_1125 : ek := (122, [.inr 67, .inr 6, .inl (0, 3), .inl (0, 3)], [], [], [(some (.inl (0, 0)), []), (some (.inl (1, 1)), [])], 1, 22)
/-- LoadsAhead.Plain meet -/
theorem qk_1125 (l : Launch) : ek_ok l tQ iQ kq_1125 := ek_good_ok (sp := sQ) (K := [kq_1119]) (SP := []) (HS := []) (N := 0) (fuel := 70) hIQ (List.forall_mem_cons.mpr ⟨qk_1119 l, fun _ h => absurd h List.not_mem_nil⟩) (by decide +kernel)
def kq_1126 : ek := (122, [.inr 67, .inr 6, .inl (0, 7), .inl (0, 3)], [], [], [(some (.inl (0, 0)), []), (some (.inl (1, 1)), [])], 1, 22)
/-- LoadsAhead.Plain meet -/
theorem qk_1126 (l : Launch) : ek_ok l tQ iQ kq_1126 := ek_good_ok (sp := sQ) (K := [kq_1119]) (SP := []) (HS := []) (N := 0) (fuel := 70) hIQ (List.forall_mem_cons.mpr ⟨qk_1119 l, fun _ h => absurd h List.not_mem_nil⟩) (by decide +kernel)
def kq_1127 : ek := (122, [.inr 67, .inr 6, .inl (0, 7), .inl (0, 7)], [], [], [(some (.inl (0, 0)), []), (some (.inl (1, 1)), [])], 1, 22)
/-- LoadsAhead.Plain meet -/
theorem qk_1127 (l : Launch) : ek_ok l tQ iQ kq_1127 := ek_good_ok (sp := sQ) (K := [kq_1119]) (SP := []) (HS := []) (N := 0) (fuel := 70) hIQ (List.forall_mem_cons.mpr ⟨qk_1119 l, fun _ h => absurd h List.not_mem_nil⟩) (by decide +kernel)
def kq_1128 : ek := (122, [.inr 67, .inr 6, .inl (0, 15), .inl (0, 7)], [], [], [(some (.inl (0, 0)), []), (some (.inl (1, 1)), [])], 1, 22)
/-- LoadsAhead.Plain meet -/
theorem qk_1128 (l : Launch) : ek_ok l tQ iQ kq_1128 := ek_good_ok (sp := sQ) (K := [kq_1119]) (SP := []) (HS := []) (N := 0) (fuel := 70) hIQ (List.forall_mem_cons.mpr ⟨qk_1119 l, fun _ h => absurd h List.not_mem_nil⟩) (by decide +kernel)
def kq_1129 : ek := (122, [.inr 67, .inr 6, .inl (0, 15), .inl (0, 15)], [], [], [(some (.inl (0, 0)), []), (some (.inl (1, 1)), [])], 1, 22)
/-- LoadsAhead.Plain meet -/
theorem qk_1129 (l : Launch) : ek_ok l tQ iQ kq_1129 := ek_good_ok (sp := sQ) (K := [kq_1119]) (SP := []) (HS := []) (N := 0) (fuel := 70) hIQ (List.forall_mem_cons.mpr ⟨qk_1119 l, fun _ h => absurd h List.not_mem_nil⟩) (by decide +kernel)
def kq_1130 : ek := (122, [.inr 67, .inr 6, .inl (0, 19), .inl (0, 15)], [], [], [(some (.inl (0, 0)), []), (some (.inl (1, 1)), [])], 1, 22)
/-- LoadsAhead.Plain meet -/
theorem qk_1130 (l : Launch) : ek_ok l tQ iQ kq_1130 := ek_good_ok (sp := sQ) (K := [kq_1119]) (SP := []) (HS := []) (N := 0) (fuel := 70) hIQ (List.forall_mem_cons.mpr ⟨qk_1119 l, fun _ h => absurd h List.not_mem_nil⟩) (by decide +kernel)
def kq_1131 : ek := (223, [.inr 86, .inl (0, 19), .inl (0, 19)], [], [], [(some (.inl (1, 1)), []), (some (.inl (0, 0)), [])], 0, 0)
/-- LoadsAheadModel haveByte -/
theorem qk_1131 (l : Launch) : ek_ok l tQ iQ kq_1131 := ek_good_ok (sp := sQ) (K := []) (SP := []) (HS := [((2, [some (.inr 86, none), some (.inl (0, 19), none), some (.inl (0, 19), none), some (.inl (0, 4), none)], [], [], []), [(0, (0, 0, 0), 0), (1, (1, 3, 0), 4), (0, (0, 0, 0), 0)])]) (N := 3) (fuel := 62) hIQ (fun _ h => absurd h List.not_mem_nil) (by decide +kernel)
def kq_1132 : ek := (222, [.inr 86], [], [(140, 999), (141, 999), (142, 999)], [(some (.inl ((-2147483648), 2147483647)), []), (some (.inl (0, 0)), [((2, 84, 2), (0, 1), none)])], 3, 68)
/-- LoadsAheadModel mix -/
theorem qk_1132 (l : Launch) : ek_ok l tQ iQ kq_1132 := ek_good_ok (sp := sQ) (K := [kq_1027, kq_1131]) (SP := []) (HS := [((8, [some (.inr 86, none), some (.inl ((-2147483648), 2147483647), none), some (.inl (0, 20), none), none], [], [], []), [(0, (0, 0, 0), 0), (1, (1, 2, 0), 20), (0, (0, 0, 0), 1), (0, (0, 0, 0), 0), (0, (0, 0, 0), 0)]), ((18, [some (.inr 86, none), some (.inl ((-2147483648), 2147483647), none), some (.inl (0, 19), none), some (.inl (0, 19), none)], [], [], []), [(0, (0, 0, 0), 0), (1, (1, 2, 0), 20), (0, (0, 0, 0), 0), (1, (1, 3, 0), 19), (0, (0, 0, 0), 0)])]) (N := 5) (fuel := 62) hIQ (List.forall_mem_cons.mpr ⟨qk_1027 l, List.forall_mem_cons.mpr ⟨qk_1131 l, fun _ h => absurd h List.not_mem_nil⟩⟩) (by decide +kernel)
def kq_1133 : ek := (223, [.inr 86, .inl (1, 1), .inl (0, 0)], [], [], [(some (.inl (1, 1)), []), (some (.inl (0, 0)), [])], 0, 0)
/-- LoadsAheadModel haveByte -/
theorem qk_1133 (l : Launch) : ek_ok l tQ iQ kq_1133 := ek_good_ok (sp := sQ) (K := []) (SP := []) (HS := [((2, [some (.inr 86, none), some (.inl (1, 1), none), some (.inl (0, 0), none), some (.inl (0, 4), none)], [], [], []), [(0, (0, 0, 0), 0), (1, (1, 3, 0), 4), (0, (0, 0, 0), 0)])]) (N := 3) (fuel := 62) hIQ (fun _ h => absurd h List.not_mem_nil) (by decide +kernel)
def kq_1134 : ek := (223, [.inr 86, .inl (0, 3), .inl (0, 1)], [], [], [(some (.inl (1, 1)), []), (some (.inl (0, 0)), [])], 0, 0)
/-- LoadsAheadModel haveByte -/
theorem qk_1134 (l : Launch) : ek_ok l tQ iQ kq_1134 := ek_good_ok (sp := sQ) (K := []) (SP := []) (HS := [((2, [some (.inr 86, none), some (.inl (0, 3), none), some (.inl (0, 1), none), some (.inl (0, 4), none)], [], [], []), [(0, (0, 0, 0), 0), (1, (1, 3, 0), 4), (0, (0, 0, 0), 0)])]) (N := 3) (fuel := 62) hIQ (fun _ h => absurd h List.not_mem_nil) (by decide +kernel)
def kq_1135 : ek := (223, [.inr 86, .inl (0, 3), .inl (0, 3)], [], [], [(some (.inl (1, 1)), []), (some (.inl (0, 0)), [])], 0, 0)
/-- LoadsAheadModel haveByte -/
theorem qk_1135 (l : Launch) : ek_ok l tQ iQ kq_1135 := ek_good_ok (sp := sQ) (K := []) (SP := []) (HS := [((2, [some (.inr 86, none), some (.inl (0, 3), none), some (.inl (0, 3), none), some (.inl (0, 4), none)], [], [], []), [(0, (0, 0, 0), 0), (1, (1, 3, 0), 4), (0, (0, 0, 0), 0)])]) (N := 3) (fuel := 62) hIQ (fun _ h => absurd h List.not_mem_nil) (by decide +kernel)
def kq_1136 : ek := (223, [.inr 86, .inl (0, 7), .inl (0, 3)], [], [], [(some (.inl (1, 1)), []), (some (.inl (0, 0)), [])], 0, 0)
/-- LoadsAheadModel haveByte -/
theorem qk_1136 (l : Launch) : ek_ok l tQ iQ kq_1136 := ek_good_ok (sp := sQ) (K := []) (SP := []) (HS := [((2, [some (.inr 86, none), some (.inl (0, 7), none), some (.inl (0, 3), none), some (.inl (0, 4), none)], [], [], []), [(0, (0, 0, 0), 0), (1, (1, 3, 0), 4), (0, (0, 0, 0), 0)])]) (N := 3) (fuel := 62) hIQ (fun _ h => absurd h List.not_mem_nil) (by decide +kernel)
def kq_1137 : ek := (223, [.inr 86, .inl (0, 7), .inl (0, 7)], [], [], [(some (.inl (1, 1)), []), (some (.inl (0, 0)), [])], 0, 0)
/-- LoadsAheadModel haveByte -/
theorem qk_1137 (l : Launch) : ek_ok l tQ iQ kq_1137 := ek_good_ok (sp := sQ) (K := []) (SP := []) (HS := [((2, [some (.inr 86, none), some (.inl (0, 7), none), some (.inl (0, 7), none), some (.inl (0, 4), none)], [], [], []), [(0, (0, 0, 0), 0), (1, (1, 3, 0), 4), (0, (0, 0, 0), 0)])]) (N := 3) (fuel := 62) hIQ (fun _ h => absurd h List.not_mem_nil) (by decide +kernel)
def kq_1138 : ek := (223, [.inr 86, .inl (0, 15), .inl (0, 7)], [], [], [(some (.inl (1, 1)), []), (some (.inl (0, 0)), [])], 0, 0)
/-- LoadsAheadModel haveByte -/
theorem qk_1138 (l : Launch) : ek_ok l tQ iQ kq_1138 := ek_good_ok (sp := sQ) (K := []) (SP := []) (HS := [((2, [some (.inr 86, none), some (.inl (0, 15), none), some (.inl (0, 7), none), some (.inl (0, 4), none)], [], [], []), [(0, (0, 0, 0), 0), (1, (1, 3, 0), 4), (0, (0, 0, 0), 0)])]) (N := 3) (fuel := 62) hIQ (fun _ h => absurd h List.not_mem_nil) (by decide +kernel)
def kq_1139 : ek := (223, [.inr 86, .inl (0, 15), .inl (0, 15)], [], [], [(some (.inl (1, 1)), []), (some (.inl (0, 0)), [])], 0, 0)
/-- LoadsAheadModel haveByte -/
theorem qk_1139 (l : Launch) : ek_ok l tQ iQ kq_1139 := ek_good_ok (sp := sQ) (K := []) (SP := []) (HS := [((2, [some (.inr 86, none), some (.inl (0, 15), none), some (.inl (0, 15), none), some (.inl (0, 4), none)], [], [], []), [(0, (0, 0, 0), 0), (1, (1, 3, 0), 4), (0, (0, 0, 0), 0)])]) (N := 3) (fuel := 62) hIQ (fun _ h => absurd h List.not_mem_nil) (by decide +kernel)
def kq_1140 : ek := (223, [.inr 86, .inl (0, 19), .inl (0, 15)], [], [], [(some (.inl (1, 1)), []), (some (.inl (0, 0)), [])], 0, 0)
/-- LoadsAheadModel haveByte -/
theorem qk_1140 (l : Launch) : ek_ok l tQ iQ kq_1140 := ek_good_ok (sp := sQ) (K := []) (SP := []) (HS := [((2, [some (.inr 86, none), some (.inl (0, 19), none), some (.inl (0, 15), none), some (.inl (0, 4), none)], [], [], []), [(0, (0, 0, 0), 0), (1, (1, 3, 0), 4), (0, (0, 0, 0), 0)])]) (N := 3) (fuel := 62) hIQ (fun _ h => absurd h List.not_mem_nil) (by decide +kernel)
def kq_1141 : ek := (123, [.inr 2, .inl ((-2147483648), (-1)), .inl ((-2147483648), 2147483647)], [], [], [(some (.inl ((-1), (-1))), [])], 0, 0)
/-- LoadsAhead watch -/
theorem qk_1141 (l : Launch) : ek_ok l tQ iQ kq_1141 := ek_good_ok (sp := sQ) (K := []) (SP := []) (HS := []) (N := 0) (fuel := 16) hIQ (fun _ h => absurd h List.not_mem_nil) (by decide +kernel)
def kq_1142 : ek := (123, [.inr 2, .inl (2, 2147483647), .inl ((-2147483648), 2147483647)], [], [], [(some (.inl ((-1), (-1))), [])], 0, 0)
/-- LoadsAhead watch -/
theorem qk_1142 (l : Launch) : ek_ok l tQ iQ kq_1142 := ek_good_ok (sp := sQ) (K := []) (SP := []) (HS := []) (N := 0) (fuel := 22) hIQ (fun _ h => absurd h List.not_mem_nil) (by decide +kernel)
def kq_1143 : ek := (123, [.inr 2, .inl (0, 1), .inl ((-2147483648), (-1))], [], [], [(some (.inl ((-3), (-1))), [])], 1, 21)
/-- LoadsAhead watch -/
theorem qk_1143 (l : Launch) : ek_ok l tQ iQ kq_1143 := ek_good_ok (sp := sQ) (K := [kq_969]) (SP := [(30, [(0, [(-1), 19])])]) (HS := []) (N := 0) (fuel := 44) hIQ (List.forall_mem_cons.mpr ⟨qk_969 l, fun _ h => absurd h List.not_mem_nil⟩) (by decide +kernel)
def kq_1144 : ek := (124, [.inr 84, .inl (0, 0), .inl (0, 19)], [], [(83, 999), (150, 999)], [(some (.inl (1, 8)), [])], 0, 0)
/-- LoadsAhead.Rows put -/
theorem qk_1144 (l : Launch) : ek_ok l tQ iQ kq_1144 := ek_good_ok (sp := sQ) (K := []) (SP := [(16, [(0, [0])])]) (HS := []) (N := 0) (fuel := 66) hIQ (fun _ h => absurd h List.not_mem_nil) (by decide +kernel)
def kq_1145 : ek := (124, [.inr 84, .inl (1, 1), .inl (0, 19)], [], [(83, 999), (151, 999)], [(some (.inl (1, 8)), [])], 0, 0)
/-- LoadsAhead.Rows put -/
theorem qk_1145 (l : Launch) : ek_ok l tQ iQ kq_1145 := ek_good_ok (sp := sQ) (K := []) (SP := [(16, [(0, [0])])]) (HS := []) (N := 0) (fuel := 66) hIQ (fun _ h => absurd h List.not_mem_nil) (by decide +kernel)
def kq_1146 : ek := (123, [.inr 2, .inl (0, 1), .inl (0, 2147483647)], [], [(82, 2), (83, 999), (150, 999), (151, 999)], [(some (.inl ((-7), (-1))), []), (some (.inl (1, 8)), [((2, 4, 11), (1, 20), none)])], 1, 22)
/-- LoadsAhead watch -/
theorem qk_1146 (l : Launch) : ek_ok l tQ iQ kq_1146 := ek_good_ok (sp := sQ) (K := [kq_1145, kq_971, kq_1144, kq_972]) (SP := [(30, [(0, [(-1), 19])])]) (HS := []) (N := 0) (fuel := 86) hIQ (List.forall_mem_cons.mpr ⟨qk_1145 l, List.forall_mem_cons.mpr ⟨qk_971 l, List.forall_mem_cons.mpr ⟨qk_1144 l, List.forall_mem_cons.mpr ⟨qk_972 l, fun _ h => absurd h List.not_mem_nil⟩⟩⟩⟩) (by decide +kernel)
def kq_1147 : ek := (230, [.inr 86, .inl ((-2147483648), (-1)), .inl ((-2147483648), 2147483647)], [], [], [(some (.inl ((-1), (-1))), [])], 1, 22)
/-- LoadsAheadModel watch -/
theorem qk_1147 (l : Launch) : ek_ok l tQ iQ kq_1147 := ek_good_ok (sp := sQ) (K := [kq_1053]) (SP := [(3, [(2, [(-1), 1])])]) (HS := []) (N := 0) (fuel := 22) hIQ (List.forall_mem_cons.mpr ⟨qk_1053 l, fun _ h => absurd h List.not_mem_nil⟩) (by decide +kernel)
def kq_1148 : ek := (230, [.inr 86, .inl (2, 2147483647), .inl ((-2147483648), 2147483647)], [], [], [(some (.inl ((-1), (-1))), [])], 1, 22)
/-- LoadsAheadModel watch -/
theorem qk_1148 (l : Launch) : ek_ok l tQ iQ kq_1148 := ek_good_ok (sp := sQ) (K := [kq_1072]) (SP := [(3, [(2, [(-1), 1])])]) (HS := []) (N := 0) (fuel := 22) hIQ (List.forall_mem_cons.mpr ⟨qk_1072 l, fun _ h => absurd h List.not_mem_nil⟩) (by decide +kernel)
def kq_1149 : ek := (230, [.inr 86, .inl (0, 1), .inl ((-2147483648), (-1))], [], [], [(some (.inl ((-1), (-1))), [])], 2, 43)
/-- LoadsAheadModel watch -/
theorem qk_1149 (l : Launch) : ek_ok l tQ iQ kq_1149 := ek_good_ok (sp := sQ) (K := [kq_1055, kq_979]) (SP := [(3, [(2, [(-1), 1])]), (11, [(0, [(-1), 19])])]) (HS := []) (N := 0) (fuel := 30) hIQ (List.forall_mem_cons.mpr ⟨qk_1055 l, List.forall_mem_cons.mpr ⟨qk_979 l, fun _ h => absurd h List.not_mem_nil⟩⟩) (by decide +kernel)
def kq_1150 : ek := (230, [.inr 86, .inl (0, 1), .inl (0, 2147483647)], [], [(84, 4), (144, 999), (145, 999)], [(some (.inl ((-7), (-1))), []), (some (.inl (1, 8)), [])], 2, 43)
/-- LoadsAheadModel watch -/
theorem qk_1150 (l : Launch) : ek_ok l tQ iQ kq_1150 := ek_good_ok (sp := sQ) (K := [kq_1055, kq_982, kq_450, kq_984]) (SP := [(3, [(2, [(-1), 1])]), (11, [(0, [(-1), 19])])]) (HS := []) (N := 0) (fuel := 98) hIQ (List.forall_mem_cons.mpr ⟨qk_1055 l, List.forall_mem_cons.mpr ⟨qk_982 l, List.forall_mem_cons.mpr ⟨qk_450 l, List.forall_mem_cons.mpr ⟨qk_984 l, fun _ h => absurd h List.not_mem_nil⟩⟩⟩⟩) (by decide +kernel)
def kq_1151 : ek := (125, [.inr 2, .inl ((-2147483648), (-1)), .inl ((-2147483648), 2147483647), .inl ((-2147483648), 2147483647)], [], [], [(some (.inl ((-100000), (-100000))), [])], 0, 0)
/-- LoadsAhead watched -/
theorem qk_1151 (l : Launch) : ek_ok l tQ iQ kq_1151 := ek_good_ok (sp := sQ) (K := []) (SP := []) (HS := []) (N := 0) (fuel := 16) hIQ (fun _ h => absurd h List.not_mem_nil) (by decide +kernel)
def kq_1152 : ek := (125, [.inr 2, .inl (2, 2147483647), .inl ((-2147483648), 2147483647), .inl ((-2147483648), 2147483647)], [], [], [(some (.inl ((-100000), (-100000))), [])], 0, 0)
/-- LoadsAhead watched -/
theorem qk_1152 (l : Launch) : ek_ok l tQ iQ kq_1152 := ek_good_ok (sp := sQ) (K := []) (SP := []) (HS := []) (N := 0) (fuel := 22) hIQ (fun _ h => absurd h List.not_mem_nil) (by decide +kernel)
def kq_1153 : ek := (125, [.inr 2, .inl (0, 1), .inl ((-2147483648), (-1)), .inl ((-2147483648), 2147483647)], [], [], [(some (.inl ((-100000), (-100000))), [])], 0, 0)
/-- LoadsAhead watched -/
theorem qk_1153 (l : Launch) : ek_ok l tQ iQ kq_1153 := ek_good_ok (sp := sQ) (K := []) (SP := []) (HS := []) (N := 0) (fuel := 26) hIQ (fun _ h => absurd h List.not_mem_nil) (by decide +kernel)
def kq_1154 : ek := (125, [.inr 2, .inl (0, 1), .inl (0, 2147483647), .inl ((-2147483648), (-1))], [], [], [(some (.inl ((-100000), (-100000))), [])], 0, 0)
/-- LoadsAhead watched -/
theorem qk_1154 (l : Launch) : ek_ok l tQ iQ kq_1154 := ek_good_ok (sp := sQ) (K := []) (SP := []) (HS := []) (N := 0) (fuel := 30) hIQ (fun _ h => absurd h List.not_mem_nil) (by decide +kernel)
def kq_1155 : ek := (103, [.inr 2, .inl (0, 19), .inl (0, 7)], [], [], [(some (.inl ((-100000), (-2))), []), (some (.inl (0, 15)), [((2, 4, 11), (1, 20), none)]), (some (.inl ((-2147483648), 2147483647)), [((2, 0, 8), (1, 1), none), ((2, 4, 11), (1, 20), none)])], 1, 21)
/-- LoadsAhead opIs -/
theorem qk_1155 (l : Launch) : ek_ok l tQ iQ kq_1155 := ek_good_ok (sp := sQ) (K := [kq_975, kq_971, kq_976]) (SP := [(2, [(0, [(-1), 19])])]) (HS := []) (N := 0) (fuel := 78) hIQ (List.forall_mem_cons.mpr ⟨qk_975 l, List.forall_mem_cons.mpr ⟨qk_971 l, List.forall_mem_cons.mpr ⟨qk_976 l, fun _ h => absurd h List.not_mem_nil⟩⟩⟩) (by decide +kernel)
def kq_1156 : ek := (125, [.inr 2, .inl (0, 1), .inl (0, 2147483647), .inl (0, 6)], [], [], [(some (.inl (0, 19)), []), (some (.inl ((-2147483648), 2147483647)), [((2, 0, 8), (1, 1), none), ((2, 4, 11), (1, 20), none)]), (some (.inl ((-100000), (-2))), [])], 2, 43)
/-- LoadsAhead watched -/
theorem qk_1156 (l : Launch) : ek_ok l tQ iQ kq_1156 := ek_good_ok (sp := sQ) (K := [kq_1155]) (SP := [(56, [(0, [0])])]) (HS := []) (N := 0) (fuel := 84) hIQ (List.forall_mem_cons.mpr ⟨qk_1155 l, fun _ h => absurd h List.not_mem_nil⟩) (by decide +kernel)
def kq_1157 : ek := (125, [.inr 2, .inl (0, 1), .inl (0, 2147483647), .inl (7, 2147483647)], [], [], [(some (.inl ((-100000), (-100000))), [])], 0, 0)
/-- LoadsAhead watched -/
theorem qk_1157 (l : Launch) : ek_ok l tQ iQ kq_1157 := ek_good_ok (sp := sQ) (K := []) (SP := []) (HS := []) (N := 0) (fuel := 36) hIQ (fun _ h => absurd h List.not_mem_nil) (by decide +kernel)
def kq_1158 : ek := (231, [.inr 86, .inl ((-2147483648), (-1)), .inl ((-2147483648), 2147483647), .inl ((-2147483648), 2147483647)], [], [], [(some (.inl ((-100000), (-100000))), [])], 1, 22)
/-- LoadsAheadModel watched -/
theorem qk_1158 (l : Launch) : ek_ok l tQ iQ kq_1158 := ek_good_ok (sp := sQ) (K := [kq_1053]) (SP := [(3, [(2, [(-1), 1])])]) (HS := []) (N := 0) (fuel := 22) hIQ (List.forall_mem_cons.mpr ⟨qk_1053 l, fun _ h => absurd h List.not_mem_nil⟩) (by decide +kernel)
